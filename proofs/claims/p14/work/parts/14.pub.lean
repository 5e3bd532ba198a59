/-! 14: put, blank, merge (laid by wip/gen/cls14.py) -/
set_option maxHeartbeats 4000000 in
set_option maxRecDepth 100000 in
/-- put_n -/
theorem c_X3_put_n (l : Launch) (D : va_G) (g : Nat → ClassId) (b0 : Nat) (H : Heap) (A : Nat → Nat) (σ : SG) (dw : Nat → Int64) (hC : CR D g b0 A σ dw H) (hbH : b0 ≤ H.size) (bi ti : Int32) (ad : Bool) (hN : BrN σ bi) : Met l yX3_put wsX3_put ({ frames := 5, cells := 4, slots := 470, locals := 133 } : Room) (kPc D g [.ref (A 0), .int (bi), .int (ti), .int (b2i ad)] H) (kI (PubQ D g b0 H A σ (SpPut σ bi ti ad))) 4 470 (kF b0) := by
  refine Met.ofW (cc := cX3_put) (maxL := 5) (ret := (some .int)) (by decide) rfl ?_
  intro p e s m args below meth c s₁ B hml hv
  obtain ⟨rfl, hH, hK⟩ := hv
  have hx := B.exec
  have hb := B.bytes
  have hr := B.returns
  have hts := atoms_spec (ws := wsX3_put) B.pre
  have hown : s.vm.findClass RX3 = some m.cls := findClass_of_methodNamed B.named
  have hlocks := B.notSynchronized
  rw [hH]
  have hl := lv_entry ([.ref (A 0), .int (bi), .int (ti), .int (b2i ad)]) (n := 5) (Nat.le_of_ble_eq_true rfl)
  rw [lg_entry_eq]
  generalize (lg_sl ([.ref (A 0), .int (bi), .int (ti), .int (b2i ad)]) ++ List.replicate (5 - (lg_sl ([.ref (A 0), .int (bi), .int (ti), .int (b2i ad)])).length) Slot.unset).toArray = ls at hl ⊢
  have hl : lv_has ls 5 [(0, .ref (A 0)), (1, .int (bi)), (2, .int (ti)), (3, .int (b2i ad))] := hl
  have hVB := hC.wf
  have hV4 : sV σ ≤ 400 := hVB.2.1
  have hB4 : sB σ ≤ 40 := hVB.2.2.2.1
  refine lv_aload_n hx hb dX3_put_0 rfl (lv_at hl 0 rfl) ?_
  refine lv_iload_n hx hb dX3_put_1 rfl (lv_at hl 1 rfl) ?_
  refine k_callX (va_runV (As := [.int (bi)]) (rest := []) ⟨hx, hb, hml, hown, hts⟩ (c_X3_branchAt_n l D g b0 H A σ dw hC bi hN) (cwV 1 hts gX3_put_X3_branchAt rfl rfl rfl (by decide +kernel) ⟨Nat.le_of_ble_eq_true rfl, Nat.le_of_ble_eq_true rfl⟩) ⟨kPc_blind, k_recv hK hC.o rfl, fun U hU hW => kPc_at hK hU hW⟩ rfl rfl hl.1 rfl (lv_room (Nat.le_of_ble_eq_true rfl)) dX3_put_2 ⟨Nat.le_of_ble_eq_true rfl, Nat.le_of_ble_eq_true rfl⟩) ?_
  refine lv_astoreN (lv' := [(4, .null), (0, .ref (A 0)), (1, .int (bi)), (2, .int (ti)), (3, .int (b2i ad))]) hx hb dX3_put_5 hl (by decide) rfl (fun ls hl => ?_)
  refine lv_aloadN hx hb dX3_put_7 (lv_at hl 0 rfl) ?_
  refine lv_ifnonnullN hx hb dX3_put_9 ?_
  refine lv_iconst (v := (-1)) hx hb dX3_put_12 (by decide +kernel) ?_
  exact r_iI hx hb hr LB.nil (Nat.le_of_ble_eq_true rfl) (Nat.le_of_ble_eq_true rfl) ⟨A, σ, dw, hC, CFr.rf, Or.inl ⟨hN, rfl, rfl⟩⟩ dX3_put_13 hlocks
set_option maxHeartbeats 4000000 in
set_option maxRecDepth 100000 in
/-- put_y -/
theorem c_X3_put_y (l : Launch) (D : va_G) (g : Nat → ClassId) (b0 : Nat) (H : Heap) (A : Nat → Nat) (σ : SG) (dw : Nat → Int64) (hC : CR D g b0 A σ dw H) (hbH : b0 ≤ H.size) (b : Nat) (hb4 : b < sB σ) (ti : Int32) (ad : Bool) : Met l yX3_put wsX3_put ({ frames := 5, cells := 4, slots := 470, locals := 133 } : Room) (kPc D g [.ref (A 0), .int (nI b), .int (ti), .int (b2i ad)] H) (kI (PubQ D g b0 H A σ (SpPut σ (nI b) ti ad))) 4 470 (kF b0) := by
  refine Met.ofW (cc := cX3_put) (maxL := 5) (ret := (some .int)) (by decide) rfl ?_
  intro p e s m args below meth c s₁ B hml hv
  obtain ⟨rfl, hH, hK⟩ := hv
  have hx := B.exec
  have hb := B.bytes
  have hr := B.returns
  have hts := atoms_spec (ws := wsX3_put) B.pre
  have hown : s.vm.findClass RX3 = some m.cls := findClass_of_methodNamed B.named
  have hlocks := B.notSynchronized
  rw [hH]
  have hl := lv_entry ([.ref (A 0), .int (nI b), .int (ti), .int (b2i ad)]) (n := 5) (Nat.le_of_ble_eq_true rfl)
  rw [lg_entry_eq]
  generalize (lg_sl ([.ref (A 0), .int (nI b), .int (ti), .int (b2i ad)]) ++ List.replicate (5 - (lg_sl ([.ref (A 0), .int (nI b), .int (ti), .int (b2i ad)])).length) Slot.unset).toArray = ls at hl ⊢
  have hl : lv_has ls 5 [(0, .ref (A 0)), (1, .int (nI b)), (2, .int (ti)), (3, .int (b2i ad))] := hl
  have hVB := hC.wf
  have hV4 : sV σ ≤ 400 := hVB.2.1
  have hB4 : sB σ ≤ 40 := hVB.2.2.2.1
  have hhd := hVB.2.2.2.2.1 b hb4
  refine lv_aload_n hx hb dX3_put_0 rfl (lv_at hl 0 rfl) ?_
  refine lv_iload_n hx hb dX3_put_1 rfl (lv_at hl 1 rfl) ?_
  refine k_callX (va_runV (As := [.int (nI b)]) (rest := []) ⟨hx, hb, hml, hown, hts⟩ (c_X3_branchAt_y l D g b0 H A σ dw hC b hb4) (cwV 1 hts gX3_put_X3_branchAt rfl rfl rfl (by decide +kernel) ⟨Nat.le_of_ble_eq_true rfl, Nat.le_of_ble_eq_true rfl⟩) ⟨kPc_blind, k_recv hK hC.o rfl, fun U hU hW => kPc_at hK hU hW⟩ rfl rfl hl.1 rfl (lv_room (Nat.le_of_ble_eq_true rfl)) dX3_put_2 ⟨Nat.le_of_ble_eq_true rfl, Nat.le_of_ble_eq_true rfl⟩) ?_
  refine lv_astore (lv' := [(4, .ref (A (2000 + b))), (0, .ref (A 0)), (1, .int (nI b)), (2, .int (ti)), (3, .int (b2i ad))]) hx hb dX3_put_5 hl (by decide) rfl (fun ls hl => ?_)
  refine lv_aload hx hb dX3_put_7 (lv_at hl 0 rfl) ?_
  refine lv_ifnonnull (tgt := 14) hx hb dX3_put_9 (by decide) ?_
  refine lv_iload_n hx hb dX3_put_14 rfl (lv_at hl 3 rfl) ?_
  refine k_callX (va_runS (As := [.int (ti)]) (rest := []) ⟨hx, hb, hml, hown, hts⟩ (c_X3_isTriple l D g H ti) (va_cwS 1 hts gX3_put_X3_isTriple rfl rfl rfl (by decide +kernel) ⟨Nat.le_of_ble_eq_true rfl, Nat.le_of_ble_eq_true rfl⟩) ⟨kPc_blind, fun U hU hW => kPc_at hK hU hW⟩ rfl rfl hl.1 rfl (lv_room (Nat.le_of_ble_eq_true rfl)) dX3_put_15 ⟨Nat.le_of_ble_eq_true rfl, Nat.le_of_ble_eq_true rfl⟩) ?_
  refine z_if_ne (tgt := 24) hx hb dX3_put_18 (by decide) (fun c_755 => ?_) (fun c_755 => ?_)
  · skip
    obtain ⟨t, ht, rfl⟩ := isTb_ex c_755
    refine lv_aload hx hb dX3_put_24 (lv_at hl 0 rfl) ?_
    refine k_getN (ci := 0) (C := RX0) (T := TX0) (N := 1) (v := .ref (A (16 + 4 * (sH σ b)))) hx hb hts (by decide +kernel) hown hK (hC.ba hb4) rfl 0 (by decide) rfl (List.mem_of_getElem? (i := 4) rfl) rfl dX3_put_26 ?_
    refine k_getN (ci := 2) (C := RX2) (T := TX2) (N := 5) (v := .ref (A (17 + 4 * (sH σ b)))) hx hb hts (by decide +kernel) hown hK (hC.ver hhd) rfl 3 (by decide) rfl (List.mem_of_getElem? (i := 3) rfl) rfl dX3_put_29 ?_
    refine lv_iload_n hx hb dX3_put_32 rfl (lv_at hl 3 rfl) ?_
    refine k_callX (va_runVN (As := [.int (nI t)]) (rest := []) ⟨hx, hb, hml, hown, hts⟩ (c_X1_has l D g H (A (17 + 4 * (sH σ b))) (A (18 + 4 * (sH σ b))) (sW σ (sH σ b)) (hC.ts hhd) (hC.tw hhd) t ht) ⟨va_cnB 1 hts gX3_put_X1_has_n61 rfl rfl rfl (hK.2.1 (RX3, 61, yX1_has) (List.mem_of_getElem? (i := 5) rfl)) (hts (.initialized RX1) (by decide +kernel)) (by decide +kernel) ⟨Nat.le_of_ble_eq_true rfl, Nat.le_of_ble_eq_true rfl⟩, hts (.instanceMethod yX1_has) (by decide +kernel), hts (.selects RX1 yX1_has yX1_has) (by decide +kernel)⟩ ⟨kPc_blind, k_recv hK (hC.ts hhd) rfl, fun U hU hW => kPc_at hK hU hW⟩ rfl rfl hl.1 rfl (lv_room (Nat.le_of_ble_eq_true rfl)) dX3_put_33 ⟨Nat.le_of_ble_eq_true rfl, Nat.le_of_ble_eq_true rfl⟩) ?_
    refine lv_iload_n hx hb dX3_put_36 rfl (lv_at hl 4 rfl) ?_
    refine z_icmp_ne (tgt := 43) hx hb dX3_put_37 (by decide) (fun c_756 => ?_) (fun c_756 => ?_)
    · skip
      refine lv_aload_n hx hb dX3_put_43 rfl (lv_at hl 1 rfl) ?_
      refine k_get (ci := 3) (C := RX3) (T := TX3) (N := 7) (v := .ref (A 7)) hx hb hts (by decide +kernel) hown hK hC.o rfl 6 (by decide) rfl (hts (.fieldLink RX3 31 RX3 "draft" "LVersionMerge$TripleSet;") (by decide +kernel)) rfl dX3_put_44 ?_
      refine lv_aload hx hb dX3_put_47 (lv_at hl 0 rfl) ?_
      refine k_getN (ci := 0) (C := RX0) (T := TX0) (N := 1) (v := .ref (A (16 + 4 * (sH σ b)))) hx hb hts (by decide +kernel) hown hK (hC.ba hb4) rfl 0 (by decide) rfl (List.mem_of_getElem? (i := 4) rfl) rfl dX3_put_49 ?_
      refine k_getN (ci := 2) (C := RX2) (T := TX2) (N := 5) (v := .ref (A (17 + 4 * (sH σ b)))) hx hb hts (by decide +kernel) hown hK (hC.ver hhd) rfl 3 (by decide) rfl (List.mem_of_getElem? (i := 3) rfl) rfl dX3_put_52 ?_
      refine k_callU (va_runVN (As := [.ref (A (17 + 4 * (sH σ b)))]) (rest := []) ⟨hx, hb, hml, hown, hts⟩ (c_X1_becomeCopy l D g b0 H (A 7) (A 8) dw hC.dr hC.drw (hC.ge (cl0 (by omega))) (A (17 + 4 * (sH σ b))) (A (18 + 4 * (sH σ b))) (sW σ (sH σ b)) (hC.ts hhd) (hC.tw hhd) (hC.ge (clV (sH σ b) hhd (by omega) (by omega))) (hC.ne (clV (sH σ b) hhd (by omega) (by omega)) (cl0 (by omega)) (by omega))) ⟨va_cnB 1 hts gX3_put_X1_becomeCopy_n64 rfl rfl rfl (hK.2.1 (RX3, 64, yX1_becomeCopy) (List.mem_of_getElem? (i := 7) rfl)) (hts (.initialized RX1) (by decide +kernel)) (by decide +kernel) ⟨Nat.le_of_ble_eq_true rfl, Nat.le_of_ble_eq_true rfl⟩, hts (.instanceMethod yX1_becomeCopy) (by decide +kernel), hts (.selects RX1 yX1_becomeCopy yX1_becomeCopy) (by decide +kernel)⟩ ⟨kPc_blind, k_recv hK hC.dr rfl, fun U hU hW => kPc_at hK hU hW⟩ rfl rfl hl.1 rfl (lv_room (Nat.le_of_ble_eq_true rfl)) dX3_put_55 ⟨Nat.le_of_ble_eq_true rfl, Nat.le_of_ble_eq_true rfl⟩) LB.nil (fun H1 locs1 hLB1 hq1 => ?_)
      obtain ⟨f1, hw1, hCh1, hf1v⟩ := hq1
      have hC1 := hC.draft hw1 hCh1
      have hbH1 : b0 ≤ H1.size := Nat.le_trans hbH hCh1.1
      have hF1 : CFr H A σ H1 A σ := CFr.chg (cl0 (by omega)) hCh1 (fun c hc => hc)
      refine lv_aload_n hx hb dX3_put_58 rfl (lv_at hl 1 rfl) ?_
      refine k_get (ci := 3) (C := RX3) (T := TX3) (N := 7) (v := .ref (A 7)) hx hb hts (by decide +kernel) hown hK hC1.o rfl 6 (by decide) rfl (hts (.fieldLink RX3 31 RX3 "draft" "LVersionMerge$TripleSet;") (by decide +kernel)) rfl dX3_put_59 ?_
      refine lv_iload_n hx hb dX3_put_62 rfl (lv_at hl 3 rfl) ?_
      refine lv_iload_n hx hb dX3_put_63 rfl (lv_at hl 4 rfl) ?_
      refine k_callU (va_runVN (As := [.int (nI t), .int (b2i ad)]) (rest := []) ⟨hx, hb, hml, hown, hts⟩ (c_X1_change l D g b0 H1 (A 7) (A 8) f1 hC1.dr hC1.drw (hC1.ge (cl0 (by omega))) t ht ad) ⟨va_cnB 2 hts gX3_put_X1_change_n68 rfl rfl rfl (hK.2.1 (RX3, 68, yX1_change) (List.mem_of_getElem? (i := 8) rfl)) (hts (.initialized RX1) (by decide +kernel)) (by decide +kernel) ⟨Nat.le_of_ble_eq_true rfl, Nat.le_of_ble_eq_true rfl⟩, hts (.instanceMethod yX1_change) (by decide +kernel), hts (.selects RX1 yX1_change yX1_change) (by decide +kernel)⟩ ⟨kPc_blind, k_recv hK hC1.dr rfl, fun U hU hW => kPc_at hK hU hW⟩ rfl rfl hl.1 rfl (lv_room (Nat.le_of_ble_eq_true rfl)) dX3_put_64 ⟨Nat.le_of_ble_eq_true rfl, Nat.le_of_ble_eq_true rfl⟩) hLB1 (fun H2 locs2 hLB2 hq2 => ?_)
      obtain ⟨f2, hw2, hCh2, hf2v⟩ := hq2
      have hC2 := hC1.draft hw2 hCh2
      have hbH2 : b0 ≤ H2.size := Nat.le_trans hbH1 hCh2.1
      have hF2 : CFr H A σ H2 A σ := hF1.tr (CFr.chg (cl0 (by omega)) hCh2 (fun c hc => hc))
      refine lv_aload_n hx hb dX3_put_67 rfl (lv_at hl 1 rfl) ?_
      refine lv_aload hx hb dX3_put_68 (lv_at hl 0 rfl) ?_
      refine lv_null hx hb dX3_put_70 ?_
      refine lv_aload_n hx hb dX3_put_71 rfl (lv_at hl 1 rfl) ?_
      refine k_get (ci := 3) (C := RX3) (T := TX3) (N := 7) (v := .ref (A 7)) hx hb hts (by decide +kernel) hown hK hC2.o rfl 6 (by decide) rfl (hts (.fieldLink RX3 31 RX3 "draft" "LVersionMerge$TripleSet;") (by decide +kernel)) rfl dX3_put_72 ?_
      by_cases hV : sV σ < 400
      · skip
        refine k_callI (va_runV (As := [.ref (A (2000 + b)), .null, .ref (A 7)]) (rest := []) ⟨hx, hb, hml, hown, hts⟩ (c_X3_advance_0 l D g b0 H2 A σ f2 hC2 7 f2 (cl0 (by omega)) (cl0 (by omega)) hC2.dr hC2.drw hbH2 hV b hb4) (cwV 3 hts gX3_put_X3_advance rfl rfl rfl (by decide +kernel) ⟨Nat.le_of_ble_eq_true rfl, Nat.le_of_ble_eq_true rfl⟩) ⟨kPc_blind, k_recv hK hC2.o rfl, fun U hU hW => kPc_at hK hU hW⟩ rfl rfl hl.1 rfl (lv_room (Nat.le_of_ble_eq_true rfl)) dX3_put_75 ⟨Nat.le_of_ble_eq_true rfl, Nat.le_of_ble_eq_true rfl⟩) hLB2 (fun ra Hz locsz hLBz hqz => ?_)
        refine W.widen (k := 4) (n := 470) (Nat.le_of_ble_eq_true rfl) (Nat.le_of_ble_eq_true rfl) ?_
        obtain ⟨hra, Az, wz, anz, hCz, hFz, hwz, hanz⟩ := hqz
        exact r_iI hx hb hr hLBz (Nat.le_of_ble_eq_true rfl) (Nat.le_of_ble_eq_true rfl) ⟨Az, _, f2, hCz, (hF2.tr hFz), Or.inr ⟨b, hb4, rfl, Or.inr ⟨t, ht, rfl, Or.inr ⟨c_756, Or.inr ⟨hV, hra, wz, anz, rfl, hanz, fun u hu => by rw [bt_eq hwz hu, hf2v u, bt_eq hf1v hu]⟩⟩⟩⟩⟩ dX3_put_78 hlocks
      · skip
        refine k_callX (va_runV (As := [.ref (A (2000 + b)), .null, .ref (A 7)]) (rest := []) ⟨hx, hb, hml, hown, hts⟩ (c_X3_advance_full_0 l D g b0 H2 A σ f2 hC2 hV b hb4 7) (cwV 3 hts gX3_put_X3_advance rfl rfl rfl (by decide +kernel) ⟨Nat.le_of_ble_eq_true rfl, Nat.le_of_ble_eq_true rfl⟩) ⟨kPc_blind, k_recv hK hC2.o rfl, fun U hU hW => kPc_at hK hU hW⟩ rfl rfl hl.1 rfl (lv_room (Nat.le_of_ble_eq_true rfl)) dX3_put_75 ⟨Nat.le_of_ble_eq_true rfl, Nat.le_of_ble_eq_true rfl⟩) ?_
        have hVf : sV σ = 400 := by omega
        exact r_iI hx hb hr hLB2 (Nat.le_of_ble_eq_true rfl) (Nat.le_of_ble_eq_true rfl) ⟨A, σ, f2, hC2, hF2, Or.inr ⟨b, hb4, rfl, Or.inr ⟨t, ht, rfl, Or.inr ⟨c_756, Or.inl ⟨hVf, rfl, rfl⟩⟩⟩⟩⟩ dX3_put_78 hlocks
    · skip
      refine lv_bipush (v := (-3)) hx hb dX3_put_40 (by decide +kernel) ?_
      exact r_iI hx hb hr LB.nil (Nat.le_of_ble_eq_true rfl) (Nat.le_of_ble_eq_true rfl) ⟨A, σ, dw, hC, CFr.rf, Or.inr ⟨b, hb4, rfl, Or.inr ⟨t, ht, rfl, Or.inl ⟨c_756, by decide +kernel, rfl⟩⟩⟩⟩ dX3_put_42 hlocks
  · skip
    refine lv_bipush (v := (-2)) hx hb dX3_put_21 (by decide +kernel) ?_
    exact r_iI hx hb hr LB.nil (Nat.le_of_ble_eq_true rfl) (Nat.le_of_ble_eq_true rfl) ⟨A, σ, dw, hC, CFr.rf, Or.inr ⟨b, hb4, rfl, Or.inl ⟨c_755, by decide +kernel, rfl⟩⟩⟩ dX3_put_23 hlocks
theorem c_X3_put (l : Launch) (D : va_G) (g : Nat → ClassId) (b0 : Nat) (H : Heap) (A : Nat → Nat) (σ : SG) (dw : Nat → Int64) (hC : CR D g b0 A σ dw H) (hbH : b0 ≤ H.size) (bi ti : Int32) (ad : Bool) : Met l yX3_put wsX3_put ({ frames := 5, cells := 4, slots := 470, locals := 133 } : Room) (kPc D g [.ref (A 0), .int bi, .int ti, .int (b2i ad)] H) (kI (PubQ D g b0 H A σ (SpPut σ bi ti ad))) 4 470 (kF b0) := by
  rcases br_dec σ bi with h | ⟨b, hb4, rfl⟩
  · exact c_X3_put_n l D g b0 H A σ dw hC hbH bi ti ad h
  · exact c_X3_put_y l D g b0 H A σ dw hC hbH b hb4 ti ad
set_option maxHeartbeats 4000000 in
set_option maxRecDepth 100000 in
/-- blank_n -/
theorem c_X3_blank_n (l : Launch) (D : va_G) (g : Nat → ClassId) (b0 : Nat) (H : Heap) (A : Nat → Nat) (σ : SG) (dw : Nat → Int64) (hC : CR D g b0 A σ dw H) (hbH : b0 ≤ H.size) (bi pi oi : Int32) (hN : BrN σ bi) : Met l yX3_blank wsX3_blank ({ frames := 5, cells := 4, slots := 470, locals := 133 } : Room) (kPc D g [.ref (A 0), .int (bi), .int (pi), .int (oi)] H) (kI (PubQ D g b0 H A σ (SpBlank σ bi pi oi))) 4 470 (kF b0) := by
  refine Met.ofW (cc := cX3_blank) (maxL := 6) (ret := (some .int)) (by decide) rfl ?_
  intro p e s m args below meth c s₁ B hml hv
  obtain ⟨rfl, hH, hK⟩ := hv
  have hx := B.exec
  have hb := B.bytes
  have hr := B.returns
  have hts := atoms_spec (ws := wsX3_blank) B.pre
  have hown : s.vm.findClass RX3 = some m.cls := findClass_of_methodNamed B.named
  have hlocks := B.notSynchronized
  rw [hH]
  have hl := lv_entry ([.ref (A 0), .int (bi), .int (pi), .int (oi)]) (n := 6) (Nat.le_of_ble_eq_true rfl)
  rw [lg_entry_eq]
  generalize (lg_sl ([.ref (A 0), .int (bi), .int (pi), .int (oi)]) ++ List.replicate (6 - (lg_sl ([.ref (A 0), .int (bi), .int (pi), .int (oi)])).length) Slot.unset).toArray = ls at hl ⊢
  have hl : lv_has ls 6 [(0, .ref (A 0)), (1, .int (bi)), (2, .int (pi)), (3, .int (oi))] := hl
  have hVB := hC.wf
  have hV4 : sV σ ≤ 400 := hVB.2.1
  have hB4 : sB σ ≤ 40 := hVB.2.2.2.1
  refine lv_aload_n hx hb dX3_blank_0 rfl (lv_at hl 0 rfl) ?_
  refine lv_iload_n hx hb dX3_blank_1 rfl (lv_at hl 1 rfl) ?_
  refine k_callX (va_runV (As := [.int (bi)]) (rest := []) ⟨hx, hb, hml, hown, hts⟩ (c_X3_branchAt_n l D g b0 H A σ dw hC bi hN) (cwV 1 hts gX3_blank_X3_branchAt rfl rfl rfl (by decide +kernel) ⟨Nat.le_of_ble_eq_true rfl, Nat.le_of_ble_eq_true rfl⟩) ⟨kPc_blind, k_recv hK hC.o rfl, fun U hU hW => kPc_at hK hU hW⟩ rfl rfl hl.1 rfl (lv_room (Nat.le_of_ble_eq_true rfl)) dX3_blank_2 ⟨Nat.le_of_ble_eq_true rfl, Nat.le_of_ble_eq_true rfl⟩) ?_
  refine lv_astoreN (lv' := [(4, .null), (0, .ref (A 0)), (1, .int (bi)), (2, .int (pi)), (3, .int (oi))]) hx hb dX3_blank_5 hl (by decide) rfl (fun ls hl => ?_)
  refine lv_aloadN hx hb dX3_blank_7 (lv_at hl 0 rfl) ?_
  refine lv_ifnonnullN hx hb dX3_blank_9 ?_
  refine lv_iconst (v := (-1)) hx hb dX3_blank_12 (by decide +kernel) ?_
  exact r_iI hx hb hr LB.nil (Nat.le_of_ble_eq_true rfl) (Nat.le_of_ble_eq_true rfl) ⟨A, σ, dw, hC, CFr.rf, Or.inl ⟨hN, rfl, rfl⟩⟩ dX3_blank_13 hlocks
set_option maxHeartbeats 4000000 in
set_option maxRecDepth 100000 in
/-- blank_y -/
theorem c_X3_blank_y (l : Launch) (D : va_G) (g : Nat → ClassId) (b0 : Nat) (H : Heap) (A : Nat → Nat) (σ : SG) (dw : Nat → Int64) (hC : CR D g b0 A σ dw H) (hbH : b0 ≤ H.size) (b : Nat) (hb4 : b < sB σ) (pi oi : Int32) : Met l yX3_blank wsX3_blank ({ frames := 5, cells := 4, slots := 470, locals := 133 } : Room) (kPc D g [.ref (A 0), .int (nI b), .int (pi), .int (oi)] H) (kI (PubQ D g b0 H A σ (SpBlank σ (nI b) pi oi))) 4 470 (kF b0) := by
  refine Met.ofW (cc := cX3_blank) (maxL := 6) (ret := (some .int)) (by decide) rfl ?_
  intro p e s m args below meth c s₁ B hml hv
  obtain ⟨rfl, hH, hK⟩ := hv
  have hx := B.exec
  have hb := B.bytes
  have hr := B.returns
  have hts := atoms_spec (ws := wsX3_blank) B.pre
  have hown : s.vm.findClass RX3 = some m.cls := findClass_of_methodNamed B.named
  have hlocks := B.notSynchronized
  rw [hH]
  have hl := lv_entry ([.ref (A 0), .int (nI b), .int (pi), .int (oi)]) (n := 6) (Nat.le_of_ble_eq_true rfl)
  rw [lg_entry_eq]
  generalize (lg_sl ([.ref (A 0), .int (nI b), .int (pi), .int (oi)]) ++ List.replicate (6 - (lg_sl ([.ref (A 0), .int (nI b), .int (pi), .int (oi)])).length) Slot.unset).toArray = ls at hl ⊢
  have hl : lv_has ls 6 [(0, .ref (A 0)), (1, .int (nI b)), (2, .int (pi)), (3, .int (oi))] := hl
  have hVB := hC.wf
  have hV4 : sV σ ≤ 400 := hVB.2.1
  have hB4 : sB σ ≤ 40 := hVB.2.2.2.1
  have hhd := hVB.2.2.2.2.1 b hb4
  have mdec : ∀ q : Nat, ∃ bb : Bool, bb = true ↔ Ment (sW σ (sH σ b)) q := fun q => by
    by_cases z : Ment (sW σ (sH σ b)) q
    · exact ⟨true, ⟨fun _ => z, fun _ => rfl⟩⟩
    · exact ⟨false, ⟨fun y => (by cases y), fun y => absurd y z⟩⟩
  refine lv_aload_n hx hb dX3_blank_0 rfl (lv_at hl 0 rfl) ?_
  refine lv_iload_n hx hb dX3_blank_1 rfl (lv_at hl 1 rfl) ?_
  refine k_callX (va_runV (As := [.int (nI b)]) (rest := []) ⟨hx, hb, hml, hown, hts⟩ (c_X3_branchAt_y l D g b0 H A σ dw hC b hb4) (cwV 1 hts gX3_blank_X3_branchAt rfl rfl rfl (by decide +kernel) ⟨Nat.le_of_ble_eq_true rfl, Nat.le_of_ble_eq_true rfl⟩) ⟨kPc_blind, k_recv hK hC.o rfl, fun U hU hW => kPc_at hK hU hW⟩ rfl rfl hl.1 rfl (lv_room (Nat.le_of_ble_eq_true rfl)) dX3_blank_2 ⟨Nat.le_of_ble_eq_true rfl, Nat.le_of_ble_eq_true rfl⟩) ?_
  refine lv_astore (lv' := [(4, .ref (A (2000 + b))), (0, .ref (A 0)), (1, .int (nI b)), (2, .int (pi)), (3, .int (oi))]) hx hb dX3_blank_5 hl (by decide) rfl (fun ls hl => ?_)
  refine lv_aload hx hb dX3_blank_7 (lv_at hl 0 rfl) ?_
  refine lv_ifnonnull (tgt := 14) hx hb dX3_blank_9 (by decide) ?_
  refine lv_iload_n hx hb dX3_blank_14 rfl (lv_at hl 3 rfl) ?_
  refine k_callX (va_runS (As := [.int (pi)]) (rest := []) ⟨hx, hb, hml, hown, hts⟩ (c_X3_isBlank l D g H pi) (va_cwS 1 hts gX3_blank_X3_isBlank rfl rfl rfl (by decide +kernel) ⟨Nat.le_of_ble_eq_true rfl, Nat.le_of_ble_eq_true rfl⟩) ⟨kPc_blind, fun U hU hW => kPc_at hK hU hW⟩ rfl rfl hl.1 rfl (lv_room (Nat.le_of_ble_eq_true rfl)) dX3_blank_15 ⟨Nat.le_of_ble_eq_true rfl, Nat.le_of_ble_eq_true rfl⟩) ?_
  refine z_if_eq (tgt := 28) hx hb dX3_blank_18 (by decide) (fun c_757 => ?_) (fun c_757 => ?_)
  · skip
    refine lv_bipush (v := (-2)) hx hb dX3_blank_28 (by decide +kernel) ?_
    exact r_iI hx hb hr LB.nil (Nat.le_of_ble_eq_true rfl) (Nat.le_of_ble_eq_true rfl) ⟨A, σ, dw, hC, CFr.rf, Or.inr ⟨b, hb4, rfl, Or.inl ⟨Or.inl c_757, by decide +kernel, rfl⟩⟩⟩ dX3_blank_30 hlocks
  · skip
    refine lv_iload_n hx hb dX3_blank_21 rfl (lv_at hl 4 rfl) ?_
    refine k_callX (va_runS (As := [.int (oi)]) (rest := []) ⟨hx, hb, hml, hown, hts⟩ (c_X3_isBlank l D g H oi) (va_cwS 1 hts gX3_blank_X3_isBlank rfl rfl rfl (by decide +kernel) ⟨Nat.le_of_ble_eq_true rfl, Nat.le_of_ble_eq_true rfl⟩) ⟨kPc_blind, fun U hU hW => kPc_at hK hU hW⟩ rfl rfl hl.1 rfl (lv_room (Nat.le_of_ble_eq_true rfl)) dX3_blank_22 ⟨Nat.le_of_ble_eq_true rfl, Nat.le_of_ble_eq_true rfl⟩) ?_
    refine z_if_ne (tgt := 31) hx hb dX3_blank_25 (by decide) (fun c_758 => ?_) (fun c_758 => ?_)
    · skip
      obtain ⟨q, hq, rfl⟩ := isBb_ex c_757
      obtain ⟨o, ho, rfl⟩ := isBb_ex c_758
      obtain ⟨m1, hm1⟩ := mdec q
      obtain ⟨m2, hm2⟩ := mdec o
      refine lv_aload hx hb dX3_blank_31 (lv_at hl 0 rfl) ?_
      refine k_getN (ci := 0) (C := RX0) (T := TX0) (N := 1) (v := .ref (A (16 + 4 * (sH σ b)))) hx hb hts (by decide +kernel) hown hK (hC.ba hb4) rfl 0 (by decide) rfl (List.mem_of_getElem? (i := 4) rfl) rfl dX3_blank_33 ?_
      refine k_getN (ci := 2) (C := RX2) (T := TX2) (N := 5) (v := .ref (A (17 + 4 * (sH σ b)))) hx hb hts (by decide +kernel) hown hK (hC.ver hhd) rfl 3 (by decide) rfl (List.mem_of_getElem? (i := 3) rfl) rfl dX3_blank_36 ?_
      refine lv_astore (lv' := [(5, .ref (A (17 + 4 * (sH σ b)))), (4, .ref (A (2000 + b))), (0, .ref (A 0)), (1, .int (nI b)), (2, .int (nI q)), (3, .int (nI o))]) hx hb dX3_blank_39 hl (by decide) rfl (fun ls hl => ?_)
      refine lv_iload_n hx hb dX3_blank_41 rfl (lv_at hl 4 rfl) ?_
      refine lv_iload_n hx hb dX3_blank_42 rfl (lv_at hl 5 rfl) ?_
      refine n_icmp_eq (tgt := 64) hx hb dX3_blank_43 (by decide) (by omega) (by omega) (fun c_759 => ?_) (fun c_759 => ?_)
      · skip
        refine lv_bipush (v := (-3)) hx hb dX3_blank_64 (by decide +kernel) ?_
        exact r_iI hx hb hr LB.nil (Nat.le_of_ble_eq_true rfl) (Nat.le_of_ble_eq_true rfl) ⟨A, σ, dw, hC, CFr.rf, Or.inr ⟨b, hb4, rfl, Or.inr ⟨q, o, hq, ho, rfl, rfl, Or.inl ⟨Or.inl c_759, by decide +kernel, rfl⟩⟩⟩⟩ dX3_blank_66 hlocks
      · skip
        refine lv_aload hx hb dX3_blank_46 (lv_at hl 0 rfl) ?_
        refine lv_iload_n hx hb dX3_blank_48 rfl (lv_at hl 4 rfl) ?_
        refine k_callX (va_runVN (As := [.int (nI q)]) (rest := []) ⟨hx, hb, hml, hown, hts⟩ (c_X1_mentions l D g H (A (17 + 4 * (sH σ b))) (A (18 + 4 * (sH σ b))) (sW σ (sH σ b)) (hC.ts hhd) (hC.tw hhd) q (by omega) m1 hm1) ⟨va_cnB 1 hts gX3_blank_X1_mentions_n79 rfl rfl rfl (hK.2.1 (RX3, 79, yX1_mentions) (List.mem_of_getElem? (i := 9) rfl)) (hts (.initialized RX1) (by decide +kernel)) (by decide +kernel) ⟨Nat.le_of_ble_eq_true rfl, Nat.le_of_ble_eq_true rfl⟩, hts (.instanceMethod yX1_mentions) (by decide +kernel), hts (.selects RX1 yX1_mentions yX1_mentions) (by decide +kernel)⟩ ⟨kPc_blind, k_recv hK (hC.ts hhd) rfl, fun U hU hW => kPc_at hK hU hW⟩ rfl rfl hl.1 rfl (lv_room (Nat.le_of_ble_eq_true rfl)) dX3_blank_49 ⟨Nat.le_of_ble_eq_true rfl, Nat.le_of_ble_eq_true rfl⟩) ?_
        refine z_if_eq (tgt := 64) hx hb dX3_blank_52 (by decide) (fun c_760 => ?_) (fun c_760 => ?_)
        · skip
          refine lv_bipush (v := (-3)) hx hb dX3_blank_64 (by decide +kernel) ?_
          exact r_iI hx hb hr LB.nil (Nat.le_of_ble_eq_true rfl) (Nat.le_of_ble_eq_true rfl) ⟨A, σ, dw, hC, CFr.rf, Or.inr ⟨b, hb4, rfl, Or.inr ⟨q, o, hq, ho, rfl, rfl, Or.inl ⟨Or.inr (Or.inl (fun z => by rw [hm1.mpr z] at c_760; cases c_760)), by decide +kernel, rfl⟩⟩⟩⟩ dX3_blank_66 hlocks
        · skip
          refine lv_aload hx hb dX3_blank_55 (lv_at hl 0 rfl) ?_
          refine lv_iload_n hx hb dX3_blank_57 rfl (lv_at hl 5 rfl) ?_
          refine k_callX (va_runVN (As := [.int (nI o)]) (rest := []) ⟨hx, hb, hml, hown, hts⟩ (c_X1_mentions l D g H (A (17 + 4 * (sH σ b))) (A (18 + 4 * (sH σ b))) (sW σ (sH σ b)) (hC.ts hhd) (hC.tw hhd) o (by omega) m2 hm2) ⟨va_cnB 1 hts gX3_blank_X1_mentions_n79 rfl rfl rfl (hK.2.1 (RX3, 79, yX1_mentions) (List.mem_of_getElem? (i := 9) rfl)) (hts (.initialized RX1) (by decide +kernel)) (by decide +kernel) ⟨Nat.le_of_ble_eq_true rfl, Nat.le_of_ble_eq_true rfl⟩, hts (.instanceMethod yX1_mentions) (by decide +kernel), hts (.selects RX1 yX1_mentions yX1_mentions) (by decide +kernel)⟩ ⟨kPc_blind, k_recv hK (hC.ts hhd) rfl, fun U hU hW => kPc_at hK hU hW⟩ rfl rfl hl.1 rfl (lv_room (Nat.le_of_ble_eq_true rfl)) dX3_blank_58 ⟨Nat.le_of_ble_eq_true rfl, Nat.le_of_ble_eq_true rfl⟩) ?_
          refine z_if_eq (tgt := 67) hx hb dX3_blank_61 (by decide) (fun c_761 => ?_) (fun c_761 => ?_)
          · skip
            refine lv_aload_n hx hb dX3_blank_67 rfl (lv_at hl 2 rfl) ?_
            refine k_get (ci := 3) (C := RX3) (T := TX3) (N := 7) (v := .ref (A 7)) hx hb hts (by decide +kernel) hown hK hC.o rfl 6 (by decide) rfl (hts (.fieldLink RX3 31 RX3 "draft" "LVersionMerge$TripleSet;") (by decide +kernel)) rfl dX3_blank_68 ?_
            refine lv_aload hx hb dX3_blank_71 (lv_at hl 0 rfl) ?_
            refine lv_iload_n hx hb dX3_blank_73 rfl (lv_at hl 4 rfl) ?_
            refine lv_iload_n hx hb dX3_blank_74 rfl (lv_at hl 5 rfl) ?_
            refine k_callU (va_runVN (As := [.ref (A (17 + 4 * (sH σ b))), .int (nI q), .int (nI o)]) (rest := []) ⟨hx, hb, hml, hown, hts⟩ (c_X1_becomeRenamed l D g b0 H (A 7) (A 8) dw hC.dr hC.drw (hC.ge (cl0 (by omega))) (hC.ne (cl0 (by omega)) (cl0 (by omega)) (by omega)) (A (17 + 4 * (sH σ b))) (A (18 + 4 * (sH σ b))) (sW σ (sH σ b)) (hC.ts hhd) (hC.tw hhd) (hC.ne (clV (sH σ b) hhd (by omega) (by omega)) (cl0 (by omega)) (by omega)) (hC.ne (clV (sH σ b) hhd (by omega) (by omega)) (cl0 (by omega)) (by omega)) q o (by omega) (by omega)) ⟨va_cnB 3 hts gX3_blank_X1_becomeRenamed_n82 rfl rfl rfl (hK.2.1 (RX3, 82, yX1_becomeRenamed) (List.mem_of_getElem? (i := 10) rfl)) (hts (.initialized RX1) (by decide +kernel)) (by decide +kernel) ⟨Nat.le_of_ble_eq_true rfl, Nat.le_of_ble_eq_true rfl⟩, hts (.instanceMethod yX1_becomeRenamed) (by decide +kernel), hts (.selects RX1 yX1_becomeRenamed yX1_becomeRenamed) (by decide +kernel)⟩ ⟨kPc_blind, k_recv hK hC.dr rfl, fun U hU hW => kPc_at hK hU hW⟩ rfl rfl hl.1 rfl (lv_room (Nat.le_of_ble_eq_true rfl)) dX3_blank_75 ⟨Nat.le_of_ble_eq_true rfl, Nat.le_of_ble_eq_true rfl⟩) LB.nil (fun H1 locs1 hLB1 hq1 => ?_)
            obtain ⟨f1, hw1, hCh1, hf1v⟩ := hq1
            have hC1 := hC.draft hw1 hCh1
            have hbH1 : b0 ≤ H1.size := Nat.le_trans hbH hCh1.1
            have hF1 : CFr H A σ H1 A σ := CFr.chg (cl0 (by omega)) hCh1 (fun c hc => hc)
            refine lv_aload_n hx hb dX3_blank_78 rfl (lv_at hl 2 rfl) ?_
            refine lv_aload hx hb dX3_blank_79 (lv_at hl 1 rfl) ?_
            refine lv_null hx hb dX3_blank_81 ?_
            refine lv_aload_n hx hb dX3_blank_82 rfl (lv_at hl 2 rfl) ?_
            refine k_get (ci := 3) (C := RX3) (T := TX3) (N := 7) (v := .ref (A 7)) hx hb hts (by decide +kernel) hown hK hC1.o rfl 6 (by decide) rfl (hts (.fieldLink RX3 31 RX3 "draft" "LVersionMerge$TripleSet;") (by decide +kernel)) rfl dX3_blank_83 ?_
            by_cases hV : sV σ < 400
            · skip
              refine k_callI (va_runV (As := [.ref (A (2000 + b)), .null, .ref (A 7)]) (rest := []) ⟨hx, hb, hml, hown, hts⟩ (c_X3_advance_0 l D g b0 H1 A σ f1 hC1 7 f1 (cl0 (by omega)) (cl0 (by omega)) hC1.dr hC1.drw hbH1 hV b hb4) (cwV 3 hts gX3_blank_X3_advance rfl rfl rfl (by decide +kernel) ⟨Nat.le_of_ble_eq_true rfl, Nat.le_of_ble_eq_true rfl⟩) ⟨kPc_blind, k_recv hK hC1.o rfl, fun U hU hW => kPc_at hK hU hW⟩ rfl rfl hl.1 rfl (lv_room (Nat.le_of_ble_eq_true rfl)) dX3_blank_86 ⟨Nat.le_of_ble_eq_true rfl, Nat.le_of_ble_eq_true rfl⟩) hLB1 (fun ra Hz locsz hLBz hqz => ?_)
              refine W.widen (k := 4) (n := 470) (Nat.le_of_ble_eq_true rfl) (Nat.le_of_ble_eq_true rfl) ?_
              obtain ⟨hra, Az, wz, anz, hCz, hFz, hwz, hanz⟩ := hqz
              exact r_iI hx hb hr hLBz (Nat.le_of_ble_eq_true rfl) (Nat.le_of_ble_eq_true rfl) ⟨Az, _, f1, hCz, (hF1.tr hFz), Or.inr ⟨b, hb4, rfl, Or.inr ⟨q, o, hq, ho, rfl, rfl, Or.inr ⟨c_759, hm1.mp c_760, fun z => (by rw [hm2.mpr z] at c_761; cases c_761), Or.inr ⟨hV, hra, wz, anz, rfl, hanz, fun u hu => by rw [bt_eq hwz hu]; exact hf1v u hu⟩⟩⟩⟩⟩ dX3_blank_89 hlocks
            · skip
              refine k_callX (va_runV (As := [.ref (A (2000 + b)), .null, .ref (A 7)]) (rest := []) ⟨hx, hb, hml, hown, hts⟩ (c_X3_advance_full_0 l D g b0 H1 A σ f1 hC1 hV b hb4 7) (cwV 3 hts gX3_blank_X3_advance rfl rfl rfl (by decide +kernel) ⟨Nat.le_of_ble_eq_true rfl, Nat.le_of_ble_eq_true rfl⟩) ⟨kPc_blind, k_recv hK hC1.o rfl, fun U hU hW => kPc_at hK hU hW⟩ rfl rfl hl.1 rfl (lv_room (Nat.le_of_ble_eq_true rfl)) dX3_blank_86 ⟨Nat.le_of_ble_eq_true rfl, Nat.le_of_ble_eq_true rfl⟩) ?_
              have hVf : sV σ = 400 := by omega
              exact r_iI hx hb hr hLB1 (Nat.le_of_ble_eq_true rfl) (Nat.le_of_ble_eq_true rfl) ⟨A, σ, f1, hC1, hF1, Or.inr ⟨b, hb4, rfl, Or.inr ⟨q, o, hq, ho, rfl, rfl, Or.inr ⟨c_759, hm1.mp c_760, fun z => (by rw [hm2.mpr z] at c_761; cases c_761), Or.inl ⟨hVf, rfl, rfl⟩⟩⟩⟩⟩ dX3_blank_89 hlocks
          · skip
            refine lv_bipush (v := (-3)) hx hb dX3_blank_64 (by decide +kernel) ?_
            exact r_iI hx hb hr LB.nil (Nat.le_of_ble_eq_true rfl) (Nat.le_of_ble_eq_true rfl) ⟨A, σ, dw, hC, CFr.rf, Or.inr ⟨b, hb4, rfl, Or.inr ⟨q, o, hq, ho, rfl, rfl, Or.inl ⟨Or.inr (Or.inr (hm2.mp c_761)), by decide +kernel, rfl⟩⟩⟩⟩ dX3_blank_66 hlocks
    · skip
      refine lv_bipush (v := (-2)) hx hb dX3_blank_28 (by decide +kernel) ?_
      exact r_iI hx hb hr LB.nil (Nat.le_of_ble_eq_true rfl) (Nat.le_of_ble_eq_true rfl) ⟨A, σ, dw, hC, CFr.rf, Or.inr ⟨b, hb4, rfl, Or.inl ⟨Or.inr c_758, by decide +kernel, rfl⟩⟩⟩ dX3_blank_30 hlocks
theorem c_X3_blank (l : Launch) (D : va_G) (g : Nat → ClassId) (b0 : Nat) (H : Heap) (A : Nat → Nat) (σ : SG) (dw : Nat → Int64) (hC : CR D g b0 A σ dw H) (hbH : b0 ≤ H.size) (bi pi oi : Int32) : Met l yX3_blank wsX3_blank ({ frames := 5, cells := 4, slots := 470, locals := 133 } : Room) (kPc D g [.ref (A 0), .int bi, .int pi, .int oi] H) (kI (PubQ D g b0 H A σ (SpBlank σ bi pi oi))) 4 470 (kF b0) := by
  rcases br_dec σ bi with h | ⟨b, hb4, rfl⟩
  · exact c_X3_blank_n l D g b0 H A σ dw hC hbH bi pi oi h
  · exact c_X3_blank_y l D g b0 H A σ dw hC hbH b hb4 pi oi
set_option maxHeartbeats 4000000 in
set_option maxRecDepth 100000 in
/-- merge_n1 -/
theorem c_X3_merge_n1 (l : Launch) (D : va_G) (g : Nat → ClassId) (b0 : Nat) (H : Heap) (A : Nat → Nat) (σ : SG) (dw : Nat → Int64) (hC : CR D g b0 A σ dw H) (hbH : b0 ≤ H.size) (ai bi : Int32) (hN : BrN σ ai) : Met l yX3_merge wsX3_merge ({ frames := 6, cells := 4, slots := 470, locals := 158 } : Room) (kPc D g [.ref (A 0), .int (ai), .int (bi)] H) (kI (PubQ D g b0 H A σ (SpMerge σ ai bi))) 4 470 (kF b0) := by
  refine Met.ofW (cc := cX3_merge) (maxL := 7) (ret := (some .int)) (by decide) rfl ?_
  intro p e s m args below meth c s₁ B hml hv
  obtain ⟨rfl, hH, hK⟩ := hv
  have hx := B.exec
  have hb := B.bytes
  have hr := B.returns
  have hts := atoms_spec (ws := wsX3_merge) B.pre
  have hown : s.vm.findClass RX3 = some m.cls := findClass_of_methodNamed B.named
  have hlocks := B.notSynchronized
  rw [hH]
  have hl := lv_entry ([.ref (A 0), .int (ai), .int (bi)]) (n := 7) (Nat.le_of_ble_eq_true rfl)
  rw [lg_entry_eq]
  generalize (lg_sl ([.ref (A 0), .int (ai), .int (bi)]) ++ List.replicate (7 - (lg_sl ([.ref (A 0), .int (ai), .int (bi)])).length) Slot.unset).toArray = ls at hl ⊢
  have hl : lv_has ls 7 [(0, .ref (A 0)), (1, .int (ai)), (2, .int (bi))] := hl
  have hVB := hC.wf
  have hV4 : sV σ ≤ 400 := hVB.2.1
  have hB4 : sB σ ≤ 40 := hVB.2.2.2.1
  refine lv_aload_n hx hb dX3_merge_0 rfl (lv_at hl 0 rfl) ?_
  refine lv_iload_n hx hb dX3_merge_1 rfl (lv_at hl 1 rfl) ?_
  refine k_callX (va_runV (As := [.int (ai)]) (rest := []) ⟨hx, hb, hml, hown, hts⟩ (c_X3_branchAt_n l D g b0 H A σ dw hC ai hN) (cwV 1 hts gX3_merge_X3_branchAt rfl rfl rfl (by decide +kernel) ⟨Nat.le_of_ble_eq_true rfl, Nat.le_of_ble_eq_true rfl⟩) ⟨kPc_blind, k_recv hK hC.o rfl, fun U hU hW => kPc_at hK hU hW⟩ rfl rfl hl.1 rfl (lv_room (Nat.le_of_ble_eq_true rfl)) dX3_merge_2 ⟨Nat.le_of_ble_eq_true rfl, Nat.le_of_ble_eq_true rfl⟩) ?_
  refine lv_astore_nN (lv' := [(3, .null), (0, .ref (A 0)), (1, .int (ai)), (2, .int (bi))]) hx hb dX3_merge_5 rfl hl (by decide) rfl (fun ls hl => ?_)
  refine lv_aload_n hx hb dX3_merge_6 rfl (lv_at hl 1 rfl) ?_
  refine lv_iload_n hx hb dX3_merge_7 rfl (lv_at hl 3 rfl) ?_
  rcases br_dec σ bi with hM | ⟨b, hb5, rfl⟩
  · skip
    refine k_callX (va_runV (As := [.int (bi)]) (rest := []) ⟨hx, hb, hml, hown, hts⟩ (c_X3_branchAt_n l D g b0 H A σ dw hC bi hM) (cwV 1 hts gX3_merge_X3_branchAt rfl rfl rfl (by decide +kernel) ⟨Nat.le_of_ble_eq_true rfl, Nat.le_of_ble_eq_true rfl⟩) ⟨kPc_blind, k_recv hK hC.o rfl, fun U hU hW => kPc_at hK hU hW⟩ rfl rfl hl.1 rfl (lv_room (Nat.le_of_ble_eq_true rfl)) dX3_merge_8 ⟨Nat.le_of_ble_eq_true rfl, Nat.le_of_ble_eq_true rfl⟩) ?_
    refine lv_astoreN (lv' := [(4, .null), (3, .null), (0, .ref (A 0)), (1, .int (ai)), (2, .int (bi))]) hx hb dX3_merge_11 hl (by decide) rfl (fun ls hl => ?_)
    refine lv_aload_nN hx hb dX3_merge_13 rfl (lv_at hl 1 rfl) ?_
    refine lv_ifnullN (tgt := 22) hx hb dX3_merge_14 (by decide) ?_
    refine lv_iconst (v := (-1)) hx hb dX3_merge_22 (by decide +kernel) ?_
    exact r_iI hx hb hr LB.nil (Nat.le_of_ble_eq_true rfl) (Nat.le_of_ble_eq_true rfl) ⟨A, σ, dw, hC, CFr.rf, Or.inl ⟨Or.inl hN, rfl, rfl⟩⟩ dX3_merge_23 hlocks
  · skip
    skip
    refine k_callX (va_runV (As := [.int (nI b)]) (rest := []) ⟨hx, hb, hml, hown, hts⟩ (c_X3_branchAt_y l D g b0 H A σ dw hC b hb5) (cwV 1 hts gX3_merge_X3_branchAt rfl rfl rfl (by decide +kernel) ⟨Nat.le_of_ble_eq_true rfl, Nat.le_of_ble_eq_true rfl⟩) ⟨kPc_blind, k_recv hK hC.o rfl, fun U hU hW => kPc_at hK hU hW⟩ rfl rfl hl.1 rfl (lv_room (Nat.le_of_ble_eq_true rfl)) dX3_merge_8 ⟨Nat.le_of_ble_eq_true rfl, Nat.le_of_ble_eq_true rfl⟩) ?_
    refine lv_astore (lv' := [(4, .ref (A (2000 + b))), (3, .null), (0, .ref (A 0)), (1, .int (ai)), (2, .int (nI b))]) hx hb dX3_merge_11 hl (by decide) rfl (fun ls hl => ?_)
    refine lv_aload_nN hx hb dX3_merge_13 rfl (lv_at hl 1 rfl) ?_
    refine lv_ifnullN (tgt := 22) hx hb dX3_merge_14 (by decide) ?_
    refine lv_iconst (v := (-1)) hx hb dX3_merge_22 (by decide +kernel) ?_
    exact r_iI hx hb hr LB.nil (Nat.le_of_ble_eq_true rfl) (Nat.le_of_ble_eq_true rfl) ⟨A, σ, dw, hC, CFr.rf, Or.inl ⟨Or.inl hN, rfl, rfl⟩⟩ dX3_merge_23 hlocks
set_option maxHeartbeats 4000000 in
set_option maxRecDepth 100000 in
/-- merge_n2 -/
theorem c_X3_merge_n2 (l : Launch) (D : va_G) (g : Nat → ClassId) (b0 : Nat) (H : Heap) (A : Nat → Nat) (σ : SG) (dw : Nat → Int64) (hC : CR D g b0 A σ dw H) (hbH : b0 ≤ H.size) (a : Nat) (ha4 : a < sB σ) (bi : Int32) (hN : BrN σ bi) : Met l yX3_merge wsX3_merge ({ frames := 6, cells := 4, slots := 470, locals := 158 } : Room) (kPc D g [.ref (A 0), .int (nI a), .int (bi)] H) (kI (PubQ D g b0 H A σ (SpMerge σ (nI a) bi))) 4 470 (kF b0) := by
  refine Met.ofW (cc := cX3_merge) (maxL := 7) (ret := (some .int)) (by decide) rfl ?_
  intro p e s m args below meth c s₁ B hml hv
  obtain ⟨rfl, hH, hK⟩ := hv
  have hx := B.exec
  have hb := B.bytes
  have hr := B.returns
  have hts := atoms_spec (ws := wsX3_merge) B.pre
  have hown : s.vm.findClass RX3 = some m.cls := findClass_of_methodNamed B.named
  have hlocks := B.notSynchronized
  rw [hH]
  have hl := lv_entry ([.ref (A 0), .int (nI a), .int (bi)]) (n := 7) (Nat.le_of_ble_eq_true rfl)
  rw [lg_entry_eq]
  generalize (lg_sl ([.ref (A 0), .int (nI a), .int (bi)]) ++ List.replicate (7 - (lg_sl ([.ref (A 0), .int (nI a), .int (bi)])).length) Slot.unset).toArray = ls at hl ⊢
  have hl : lv_has ls 7 [(0, .ref (A 0)), (1, .int (nI a)), (2, .int (bi))] := hl
  have hVB := hC.wf
  have hV4 : sV σ ≤ 400 := hVB.2.1
  have hB4 : sB σ ≤ 40 := hVB.2.2.2.1
  refine lv_aload_n hx hb dX3_merge_0 rfl (lv_at hl 0 rfl) ?_
  refine lv_iload_n hx hb dX3_merge_1 rfl (lv_at hl 1 rfl) ?_
  refine k_callX (va_runV (As := [.int (nI a)]) (rest := []) ⟨hx, hb, hml, hown, hts⟩ (c_X3_branchAt_y l D g b0 H A σ dw hC a ha4) (cwV 1 hts gX3_merge_X3_branchAt rfl rfl rfl (by decide +kernel) ⟨Nat.le_of_ble_eq_true rfl, Nat.le_of_ble_eq_true rfl⟩) ⟨kPc_blind, k_recv hK hC.o rfl, fun U hU hW => kPc_at hK hU hW⟩ rfl rfl hl.1 rfl (lv_room (Nat.le_of_ble_eq_true rfl)) dX3_merge_2 ⟨Nat.le_of_ble_eq_true rfl, Nat.le_of_ble_eq_true rfl⟩) ?_
  refine lv_astore_n (lv' := [(3, .ref (A (2000 + a))), (0, .ref (A 0)), (1, .int (nI a)), (2, .int (bi))]) hx hb dX3_merge_5 rfl hl (by decide) rfl (fun ls hl => ?_)
  refine lv_aload_n hx hb dX3_merge_6 rfl (lv_at hl 1 rfl) ?_
  refine lv_iload_n hx hb dX3_merge_7 rfl (lv_at hl 3 rfl) ?_
  refine k_callX (va_runV (As := [.int (bi)]) (rest := []) ⟨hx, hb, hml, hown, hts⟩ (c_X3_branchAt_n l D g b0 H A σ dw hC bi hN) (cwV 1 hts gX3_merge_X3_branchAt rfl rfl rfl (by decide +kernel) ⟨Nat.le_of_ble_eq_true rfl, Nat.le_of_ble_eq_true rfl⟩) ⟨kPc_blind, k_recv hK hC.o rfl, fun U hU hW => kPc_at hK hU hW⟩ rfl rfl hl.1 rfl (lv_room (Nat.le_of_ble_eq_true rfl)) dX3_merge_8 ⟨Nat.le_of_ble_eq_true rfl, Nat.le_of_ble_eq_true rfl⟩) ?_
  refine lv_astoreN (lv' := [(4, .null), (3, .ref (A (2000 + a))), (0, .ref (A 0)), (1, .int (nI a)), (2, .int (bi))]) hx hb dX3_merge_11 hl (by decide) rfl (fun ls hl => ?_)
  refine lv_aload_n hx hb dX3_merge_13 rfl (lv_at hl 1 rfl) ?_
  refine lv_ifnull hx hb dX3_merge_14 ?_
  refine lv_aloadN hx hb dX3_merge_17 (lv_at hl 0 rfl) ?_
  refine lv_ifnonnullN hx hb dX3_merge_19 ?_
  refine lv_iconst (v := (-1)) hx hb dX3_merge_22 (by decide +kernel) ?_
  exact r_iI hx hb hr LB.nil (Nat.le_of_ble_eq_true rfl) (Nat.le_of_ble_eq_true rfl) ⟨A, σ, dw, hC, CFr.rf, Or.inl ⟨Or.inr hN, rfl, rfl⟩⟩ dX3_merge_23 hlocks
set_option maxHeartbeats 4000000 in
set_option maxRecDepth 100000 in
/-- merge_y -/
theorem c_X3_merge_y (l : Launch) (D : va_G) (g : Nat → ClassId) (b0 : Nat) (H : Heap) (A : Nat → Nat) (σ : SG) (dw : Nat → Int64) (hC : CR D g b0 A σ dw H) (hbH : b0 ≤ H.size) (a b : Nat) (ha4 : a < sB σ) (hb4 : b < sB σ) : Met l yX3_merge wsX3_merge ({ frames := 6, cells := 4, slots := 470, locals := 158 } : Room) (kPc D g [.ref (A 0), .int (nI a), .int (nI b)] H) (kI (PubQ D g b0 H A σ (SpMerge σ (nI a) (nI b)))) 4 470 (kF b0) := by
  refine Met.ofW (cc := cX3_merge) (maxL := 7) (ret := (some .int)) (by decide) rfl ?_
  intro p e s m args below meth c s₁ B hml hv
  obtain ⟨rfl, hH, hK⟩ := hv
  have hx := B.exec
  have hb := B.bytes
  have hr := B.returns
  have hts := atoms_spec (ws := wsX3_merge) B.pre
  have hown : s.vm.findClass RX3 = some m.cls := findClass_of_methodNamed B.named
  have hlocks := B.notSynchronized
  rw [hH]
  have hl := lv_entry ([.ref (A 0), .int (nI a), .int (nI b)]) (n := 7) (Nat.le_of_ble_eq_true rfl)
  rw [lg_entry_eq]
  generalize (lg_sl ([.ref (A 0), .int (nI a), .int (nI b)]) ++ List.replicate (7 - (lg_sl ([.ref (A 0), .int (nI a), .int (nI b)])).length) Slot.unset).toArray = ls at hl ⊢
  have hl : lv_has ls 7 [(0, .ref (A 0)), (1, .int (nI a)), (2, .int (nI b))] := hl
  have hVB := hC.wf
  have hV4 : sV σ ≤ 400 := hVB.2.1
  have hB4 : sB σ ≤ 40 := hVB.2.2.2.1
  have hhda := hVB.2.2.2.2.1 a ha4
  have hhd := hVB.2.2.2.2.1 b hb4
  refine lv_aload_n hx hb dX3_merge_0 rfl (lv_at hl 0 rfl) ?_
  refine lv_iload_n hx hb dX3_merge_1 rfl (lv_at hl 1 rfl) ?_
  refine k_callX (va_runV (As := [.int (nI a)]) (rest := []) ⟨hx, hb, hml, hown, hts⟩ (c_X3_branchAt_y l D g b0 H A σ dw hC a ha4) (cwV 1 hts gX3_merge_X3_branchAt rfl rfl rfl (by decide +kernel) ⟨Nat.le_of_ble_eq_true rfl, Nat.le_of_ble_eq_true rfl⟩) ⟨kPc_blind, k_recv hK hC.o rfl, fun U hU hW => kPc_at hK hU hW⟩ rfl rfl hl.1 rfl (lv_room (Nat.le_of_ble_eq_true rfl)) dX3_merge_2 ⟨Nat.le_of_ble_eq_true rfl, Nat.le_of_ble_eq_true rfl⟩) ?_
  refine lv_astore_n (lv' := [(3, .ref (A (2000 + a))), (0, .ref (A 0)), (1, .int (nI a)), (2, .int (nI b))]) hx hb dX3_merge_5 rfl hl (by decide) rfl (fun ls hl => ?_)
  refine lv_aload_n hx hb dX3_merge_6 rfl (lv_at hl 1 rfl) ?_
  refine lv_iload_n hx hb dX3_merge_7 rfl (lv_at hl 3 rfl) ?_
  refine k_callX (va_runV (As := [.int (nI b)]) (rest := []) ⟨hx, hb, hml, hown, hts⟩ (c_X3_branchAt_y l D g b0 H A σ dw hC b hb4) (cwV 1 hts gX3_merge_X3_branchAt rfl rfl rfl (by decide +kernel) ⟨Nat.le_of_ble_eq_true rfl, Nat.le_of_ble_eq_true rfl⟩) ⟨kPc_blind, k_recv hK hC.o rfl, fun U hU hW => kPc_at hK hU hW⟩ rfl rfl hl.1 rfl (lv_room (Nat.le_of_ble_eq_true rfl)) dX3_merge_8 ⟨Nat.le_of_ble_eq_true rfl, Nat.le_of_ble_eq_true rfl⟩) ?_
  refine lv_astore (lv' := [(4, .ref (A (2000 + b))), (3, .ref (A (2000 + a))), (0, .ref (A 0)), (1, .int (nI a)), (2, .int (nI b))]) hx hb dX3_merge_11 hl (by decide) rfl (fun ls hl => ?_)
  refine lv_aload_n hx hb dX3_merge_13 rfl (lv_at hl 1 rfl) ?_
  refine lv_ifnull hx hb dX3_merge_14 ?_
  refine lv_aload hx hb dX3_merge_17 (lv_at hl 0 rfl) ?_
  refine lv_ifnonnull (tgt := 24) hx hb dX3_merge_19 (by decide) ?_
  refine lv_aload_n hx hb dX3_merge_24 rfl (lv_at hl 1 rfl) ?_
  refine k_getN (ci := 0) (C := RX0) (T := TX0) (N := 1) (v := .ref (A (16 + 4 * (sH σ a)))) hx hb hts (by decide +kernel) hown hK (hC.ba ha4) rfl 0 (by decide) rfl (List.mem_of_getElem? (i := 4) rfl) rfl dX3_merge_25 ?_
  refine lv_astore (lv' := [(5, .ref (A (16 + 4 * (sH σ a)))), (4, .ref (A (2000 + b))), (3, .ref (A (2000 + a))), (0, .ref (A 0)), (1, .int (nI a)), (2, .int (nI b))]) hx hb dX3_merge_28 hl (by decide) rfl (fun ls hl => ?_)
  refine lv_aload hx hb dX3_merge_30 (lv_at hl 1 rfl) ?_
  refine k_getN (ci := 0) (C := RX0) (T := TX0) (N := 1) (v := .ref (A (16 + 4 * (sH σ b)))) hx hb hts (by decide +kernel) hown hK (hC.ba hb4) rfl 0 (by decide) rfl (List.mem_of_getElem? (i := 4) rfl) rfl dX3_merge_32 ?_
  refine lv_astore (lv' := [(6, .ref (A (16 + 4 * (sH σ b)))), (5, .ref (A (16 + 4 * (sH σ a)))), (4, .ref (A (2000 + b))), (3, .ref (A (2000 + a))), (0, .ref (A 0)), (1, .int (nI a)), (2, .int (nI b))]) hx hb dX3_merge_35 hl (by decide) rfl (fun ls hl => ?_)
  refine lv_aload hx hb dX3_merge_37 (lv_at hl 1 rfl) ?_
  refine lv_aload hx hb dX3_merge_39 (lv_at hl 0 rfl) ?_
  refine k_getN (ci := 2) (C := RX2) (T := TX2) (N := 5) (v := .int (nI (sH σ b))) hx hb hts (by decide +kernel) hown hK (hC.ver hhd) rfl 0 (by decide) rfl (List.mem_of_getElem? (i := 0) rfl) rfl dX3_merge_41 ?_
  refine k_callX (va_runVN (As := [.int (nI (sH σ b))]) (rest := []) ⟨hx, hb, hml, hown, hts⟩ (c_X2_hasAncestor l D g H _ _ _ _ _ _ (sA σ (sH σ a)) (hC.ver hhda) (hC.an hhda) (sH σ b) (by omega)) ⟨va_cnB 1 hts gX3_merge_X2_hasAncestor_n93 rfl rfl rfl (hK.2.1 (RX3, 93, yX2_hasAncestor) (List.mem_of_getElem? (i := 11) rfl)) (hts (.initialized RX2) (by decide +kernel)) (by decide +kernel) ⟨Nat.le_of_ble_eq_true rfl, Nat.le_of_ble_eq_true rfl⟩, hts (.instanceMethod yX2_hasAncestor) (by decide +kernel), hts (.selects RX2 yX2_hasAncestor yX2_hasAncestor) (by decide +kernel)⟩ ⟨kPc_blind, k_recv hK (hC.ver hhda) rfl, fun U hU hW => kPc_at hK hU hW⟩ rfl rfl hl.1 rfl (lv_room (Nat.le_of_ble_eq_true rfl)) dX3_merge_44 ⟨Nat.le_of_ble_eq_true rfl, Nat.le_of_ble_eq_true rfl⟩) ?_
  refine z_if_eq (tgt := 63) hx hb dX3_merge_47 (by decide) (fun c_762 => ?_) (fun c_762 => ?_)
  · skip
    refine lv_aload hx hb dX3_merge_63 (lv_at hl 0 rfl) ?_
    refine lv_aload hx hb dX3_merge_65 (lv_at hl 1 rfl) ?_
    refine k_getN (ci := 2) (C := RX2) (T := TX2) (N := 5) (v := .int (nI (sH σ a))) hx hb hts (by decide +kernel) hown hK (hC.ver hhda) rfl 0 (by decide) rfl (List.mem_of_getElem? (i := 0) rfl) rfl dX3_merge_67 ?_
    refine k_callX (va_runVN (As := [.int (nI (sH σ a))]) (rest := []) ⟨hx, hb, hml, hown, hts⟩ (c_X2_hasAncestor l D g H _ _ _ _ _ _ (sA σ (sH σ b)) (hC.ver hhd) (hC.an hhd) (sH σ a) (by omega)) ⟨va_cnB 1 hts gX3_merge_X2_hasAncestor_n93 rfl rfl rfl (hK.2.1 (RX3, 93, yX2_hasAncestor) (List.mem_of_getElem? (i := 11) rfl)) (hts (.initialized RX2) (by decide +kernel)) (by decide +kernel) ⟨Nat.le_of_ble_eq_true rfl, Nat.le_of_ble_eq_true rfl⟩, hts (.instanceMethod yX2_hasAncestor) (by decide +kernel), hts (.selects RX2 yX2_hasAncestor yX2_hasAncestor) (by decide +kernel)⟩ ⟨kPc_blind, k_recv hK (hC.ver hhd) rfl, fun U hU hW => kPc_at hK hU hW⟩ rfl rfl hl.1 rfl (lv_room (Nat.le_of_ble_eq_true rfl)) dX3_merge_70 ⟨Nat.le_of_ble_eq_true rfl, Nat.le_of_ble_eq_true rfl⟩) ?_
    refine z_if_eq (tgt := 95) hx hb dX3_merge_73 (by decide) (fun c_763 => ?_) (fun c_763 => ?_)
    · skip
      refine lv_aload_n hx hb dX3_merge_95 rfl (lv_at hl 4 rfl) ?_
      refine lv_aload_n hx hb dX3_merge_96 rfl (lv_at hl 3 rfl) ?_
      refine lv_aload hx hb dX3_merge_97 (lv_at hl 0 rfl) ?_
      rcases gc_dec σ (sH σ a) (sH σ b) with hgc | ⟨c0, hgc⟩
      · skip
        refine k_callI (va_runV (As := [.ref (A (2000 + a)), .ref (A (16 + 4 * (sH σ b)))]) (rest := []) ⟨hx, hb, hml, hown, hts⟩ (c_X3_join_0 l D g b0 H A σ dw hC hbH a ha4 (sH σ b) hhd hgc) (cwV 2 hts gX3_merge_X3_join rfl rfl rfl (by decide +kernel) ⟨Nat.le_of_ble_eq_true rfl, Nat.le_of_ble_eq_true rfl⟩) ⟨kPc_blind, k_recv hK hC.o rfl, fun U hU hW => kPc_at hK hU hW⟩ rfl rfl hl.1 rfl (lv_room (Nat.le_of_ble_eq_true rfl)) dX3_merge_99 ⟨Nat.le_of_ble_eq_true rfl, Nat.le_of_ble_eq_true rfl⟩) LB.nil (fun ra Hz locsz hLBz hqz => ?_)
        refine W.widen (k := 4) (n := 470) (Nat.le_of_ble_eq_true rfl) (Nat.le_of_ble_eq_true rfl) ?_
        obtain ⟨Az, σz, dwz, hCz, hFz, hsz⟩ := hqz
        exact r_iI hx hb hr hLBz (Nat.le_of_ble_eq_true rfl) (Nat.le_of_ble_eq_true rfl) ⟨Az, σz, dwz, hCz, hFz, Or.inr ⟨a, b, ha4, hb4, rfl, rfl, Or.inr (Or.inr ⟨c_762, c_763, hsz⟩)⟩⟩ dX3_merge_102 hlocks
      · skip
        refine k_callI (va_runV (As := [.ref (A (2000 + a)), .ref (A (16 + 4 * (sH σ b)))]) (rest := []) ⟨hx, hb, hml, hown, hts⟩ (c_X3_join_1 l D g b0 H A σ dw hC hbH a ha4 (sH σ b) hhd c0 hgc) (cwV 2 hts gX3_merge_X3_join rfl rfl rfl (by decide +kernel) ⟨Nat.le_of_ble_eq_true rfl, Nat.le_of_ble_eq_true rfl⟩) ⟨kPc_blind, k_recv hK hC.o rfl, fun U hU hW => kPc_at hK hU hW⟩ rfl rfl hl.1 rfl (lv_room (Nat.le_of_ble_eq_true rfl)) dX3_merge_99 ⟨Nat.le_of_ble_eq_true rfl, Nat.le_of_ble_eq_true rfl⟩) LB.nil (fun ra Hz locsz hLBz hqz => ?_)
        refine W.widen (k := 4) (n := 470) (Nat.le_of_ble_eq_true rfl) (Nat.le_of_ble_eq_true rfl) ?_
        obtain ⟨Az, σz, dwz, hCz, hFz, hsz⟩ := hqz
        exact r_iI hx hb hr hLBz (Nat.le_of_ble_eq_true rfl) (Nat.le_of_ble_eq_true rfl) ⟨Az, σz, dwz, hCz, hFz, Or.inr ⟨a, b, ha4, hb4, rfl, rfl, Or.inr (Or.inr ⟨c_762, c_763, hsz⟩)⟩⟩ dX3_merge_102 hlocks
    · skip
      refine lv_aload_n hx hb dX3_merge_76 rfl (lv_at hl 4 rfl) ?_
      refine k_get (ci := 3) (C := RX3) (T := TX3) (N := 7) (v := .ref (A 5)) hx hb hts (by decide +kernel) hown hK hC.o rfl 5 (by decide) rfl (hts (.fieldLink RX3 28 RX3 "merged" "LVersionMerge$TripleSet;") (by decide +kernel)) rfl dX3_merge_77 ?_
      refine lv_aload_n hx hb dX3_merge_80 rfl (lv_at hl 4 rfl) ?_
      refine k_get (ci := 3) (C := RX3) (T := TX3) (N := 7) (v := .ref (A 3)) hx hb hts (by decide +kernel) hown hK hC.o rfl 4 (by decide) rfl (hts (.fieldLink RX3 24 RX3 "nothing" "LVersionMerge$TripleSet;") (by decide +kernel)) rfl dX3_merge_81 ?_
      refine k_callU (va_runVN (As := [.ref (A 3)]) (rest := []) ⟨hx, hb, hml, hown, hts⟩ (c_X1_becomeCopy l D g b0 H (A 5) (A 6) (sM σ) hC.mg hC.mw (hC.ge (cl0 (by omega))) (A 3) (A 4) (fun _ => 0) hC.nt hC.nw (hC.ge (cl0 (by omega))) (hC.ne (cl0 (by omega)) (cl0 (by omega)) (by omega))) ⟨va_cnB 1 hts gX3_merge_X1_becomeCopy_n64 rfl rfl rfl (hK.2.1 (RX3, 64, yX1_becomeCopy) (List.mem_of_getElem? (i := 7) rfl)) (hts (.initialized RX1) (by decide +kernel)) (by decide +kernel) ⟨Nat.le_of_ble_eq_true rfl, Nat.le_of_ble_eq_true rfl⟩, hts (.instanceMethod yX1_becomeCopy) (by decide +kernel), hts (.selects RX1 yX1_becomeCopy yX1_becomeCopy) (by decide +kernel)⟩ ⟨kPc_blind, k_recv hK hC.mg rfl, fun U hU hW => kPc_at hK hU hW⟩ rfl rfl hl.1 rfl (lv_room (Nat.le_of_ble_eq_true rfl)) dX3_merge_84 ⟨Nat.le_of_ble_eq_true rfl, Nat.le_of_ble_eq_true rfl⟩) LB.nil (fun H1 locs1 hLB1 hq1 => ?_)
      obtain ⟨f1, hw1, hCh1, hf1v⟩ := hq1
      have hC1 := hC.merged hw1 hCh1
      have hF1 : CFr H A σ H1 A (gM σ f1) := CFr.chg (cl0 (by omega)) hCh1 (fun c hc => hc)
      refine lv_aload_n hx hb dX3_merge_87 rfl (lv_at hl 3 rfl) ?_
      refine lv_aload hx hb dX3_merge_88 (lv_at hl 0 rfl) ?_
      refine k_putN (ci := 0) (C := RX0) (T := TX0) (N := 1) (v := .ref (A (16 + 4 * (sH σ b)))) hx hb hts (by decide +kernel) tyX0 tyX0_ok nmX0 hown hK (hC1.ba ha4) hLB1 (hC.ge (clB ha4)) rfl 0 (by decide) rfl (List.mem_of_getElem? (i := 4) rfl) rfl (ty := .object "VersionMerge$Version") (by decide +kernel) rfl rfl (Nat.le_of_ble_eq_true rfl) dX3_merge_90 (fun H_764 locs_765 ho_766 hC_767 hLB_768 => ?_)
      have hC2 := hC1.head (b := a) (v := sH σ b) ha4 hhd ho_766 hC_767
      have hF2 : CFr H A σ H_764 A (gHead (gM σ f1) a (sH σ b)) := hF1.tr (CFr.chg (σ := gM σ f1) (clB (σ := gM σ f1) (b := a) ha4) hC_767 (fun c hc => hc))
      refine lv_iconst (v := nI 0) hx hb dX3_merge_93 (by decide +kernel) ?_
      exact r_iI hx hb hr hLB_768 (Nat.le_of_ble_eq_true rfl) (Nat.le_of_ble_eq_true rfl) ⟨A, gHead (gM σ f1) a (sH σ b), dw, hC2, hF2, Or.inr ⟨a, b, ha4, hb4, rfl, rfl, Or.inr (Or.inl ⟨c_762, c_763, by decide +kernel, f1, hf1v, rfl⟩)⟩⟩ dX3_merge_94 hlocks
  · skip
    refine lv_aload_n hx hb dX3_merge_50 rfl (lv_at hl 4 rfl) ?_
    refine k_get (ci := 3) (C := RX3) (T := TX3) (N := 7) (v := .ref (A 5)) hx hb hts (by decide +kernel) hown hK hC.o rfl 5 (by decide) rfl (hts (.fieldLink RX3 28 RX3 "merged" "LVersionMerge$TripleSet;") (by decide +kernel)) rfl dX3_merge_51 ?_
    refine lv_aload_n hx hb dX3_merge_54 rfl (lv_at hl 4 rfl) ?_
    refine k_get (ci := 3) (C := RX3) (T := TX3) (N := 7) (v := .ref (A 3)) hx hb hts (by decide +kernel) hown hK hC.o rfl 4 (by decide) rfl (hts (.fieldLink RX3 24 RX3 "nothing" "LVersionMerge$TripleSet;") (by decide +kernel)) rfl dX3_merge_55 ?_
    refine k_callU (va_runVN (As := [.ref (A 3)]) (rest := []) ⟨hx, hb, hml, hown, hts⟩ (c_X1_becomeCopy l D g b0 H (A 5) (A 6) (sM σ) hC.mg hC.mw (hC.ge (cl0 (by omega))) (A 3) (A 4) (fun _ => 0) hC.nt hC.nw (hC.ge (cl0 (by omega))) (hC.ne (cl0 (by omega)) (cl0 (by omega)) (by omega))) ⟨va_cnB 1 hts gX3_merge_X1_becomeCopy_n64 rfl rfl rfl (hK.2.1 (RX3, 64, yX1_becomeCopy) (List.mem_of_getElem? (i := 7) rfl)) (hts (.initialized RX1) (by decide +kernel)) (by decide +kernel) ⟨Nat.le_of_ble_eq_true rfl, Nat.le_of_ble_eq_true rfl⟩, hts (.instanceMethod yX1_becomeCopy) (by decide +kernel), hts (.selects RX1 yX1_becomeCopy yX1_becomeCopy) (by decide +kernel)⟩ ⟨kPc_blind, k_recv hK hC.mg rfl, fun U hU hW => kPc_at hK hU hW⟩ rfl rfl hl.1 rfl (lv_room (Nat.le_of_ble_eq_true rfl)) dX3_merge_58 ⟨Nat.le_of_ble_eq_true rfl, Nat.le_of_ble_eq_true rfl⟩) LB.nil (fun H1 locs1 hLB1 hq1 => ?_)
    obtain ⟨f1, hw1, hCh1, hf1v⟩ := hq1
    have hC1 := hC.merged hw1 hCh1
    have hF1 : CFr H A σ H1 A (gM σ f1) := CFr.chg (cl0 (by omega)) hCh1 (fun c hc => hc)
    refine lv_iconst (v := nI 0) hx hb dX3_merge_61 (by decide +kernel) ?_
    exact r_iI hx hb hr hLB1 (Nat.le_of_ble_eq_true rfl) (Nat.le_of_ble_eq_true rfl) ⟨A, gM σ f1, dw, hC1, hF1, Or.inr ⟨a, b, ha4, hb4, rfl, rfl, Or.inl ⟨c_762, by decide +kernel, f1, hf1v, rfl⟩⟩⟩ dX3_merge_62 hlocks
theorem c_X3_merge (l : Launch) (D : va_G) (g : Nat → ClassId) (b0 : Nat) (H : Heap) (A : Nat → Nat) (σ : SG) (dw : Nat → Int64) (hC : CR D g b0 A σ dw H) (hbH : b0 ≤ H.size) (ai bi : Int32) : Met l yX3_merge wsX3_merge ({ frames := 6, cells := 4, slots := 470, locals := 158 } : Room) (kPc D g [.ref (A 0), .int ai, .int bi] H) (kI (PubQ D g b0 H A σ (SpMerge σ ai bi))) 4 470 (kF b0) := by
  rcases br_dec σ ai with h | ⟨a, ha4, rfl⟩
  · exact c_X3_merge_n1 l D g b0 H A σ dw hC hbH ai bi h
  · rcases br_dec σ bi with h | ⟨b, hb4, rfl⟩
    · exact c_X3_merge_n2 l D g b0 H A σ dw hC hbH a ha4 bi h
    · exact c_X3_merge_y l D g b0 H A σ dw hC hbH a b ha4 hb4

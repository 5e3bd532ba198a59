/-! 15: apply, revert, branch (laid by wip/gen/cls15.py) -/
set_option maxHeartbeats 4000000 in
set_option maxRecDepth 100000 in
/-- apply_n1 -/
theorem c_X3_apply_n1 (l : Launch) (D : va_G) (g : Nat → ClassId) (b0 : Nat) (H : Heap) (A : Nat → Nat) (σ : SG) (dw : Nat → Int64) (hC : CR D g b0 A σ dw H) (hbH : b0 ≤ H.size) (bi pi : Int32) (hN : BrN σ bi) : Met l yX3_apply wsX3_apply ({ frames := 6, cells := 4, slots := 470, locals := 157 } : Room) (kPc D g [.ref (A 0), .int (bi), .int (pi)] H) (kI (PubQ D g b0 H A σ (SpApply σ bi pi))) 4 470 (kF b0) := by
  refine Met.ofW (cc := cX3_apply) (maxL := 5) (ret := (some .int)) (by decide) rfl ?_
  intro p e s m args below meth c s₁ B hml hv
  obtain ⟨rfl, hH, hK⟩ := hv
  have hx := B.exec
  have hb := B.bytes
  have hr := B.returns
  have hts := atoms_spec (ws := wsX3_apply) B.pre
  have hown : s.vm.findClass RX3 = some m.cls := findClass_of_methodNamed B.named
  have hlocks := B.notSynchronized
  rw [hH]
  have hl := lv_entry ([.ref (A 0), .int (bi), .int (pi)]) (n := 5) (Nat.le_of_ble_eq_true rfl)
  rw [lg_entry_eq]
  generalize (lg_sl ([.ref (A 0), .int (bi), .int (pi)]) ++ List.replicate (5 - (lg_sl ([.ref (A 0), .int (bi), .int (pi)])).length) Slot.unset).toArray = ls at hl ⊢
  have hl : lv_has ls 5 [(0, .ref (A 0)), (1, .int (bi)), (2, .int (pi))] := hl
  have hVB := hC.wf
  have hV4 : sV σ ≤ 400 := hVB.2.1
  have hB4 : sB σ ≤ 40 := hVB.2.2.2.1
  refine lv_aload_n hx hb dX3_apply_0 rfl (lv_at hl 0 rfl) ?_
  refine lv_iload_n hx hb dX3_apply_1 rfl (lv_at hl 1 rfl) ?_
  refine k_callX (va_runV (As := [.int (bi)]) (rest := []) ⟨hx, hb, hml, hown, hts⟩ (c_X3_branchAt_n l D g b0 H A σ dw hC bi hN) (cwV 1 hts gX3_apply_X3_branchAt rfl rfl rfl (by decide +kernel) ⟨Nat.le_of_ble_eq_true rfl, Nat.le_of_ble_eq_true rfl⟩) ⟨kPc_blind, k_recv hK hC.o rfl, fun U hU hW => kPc_at hK hU hW⟩ rfl rfl hl.1 rfl (lv_room (Nat.le_of_ble_eq_true rfl)) dX3_apply_2 ⟨Nat.le_of_ble_eq_true rfl, Nat.le_of_ble_eq_true rfl⟩) ?_
  refine lv_astore_nN (lv' := [(3, .null), (0, .ref (A 0)), (1, .int (bi)), (2, .int (pi))]) hx hb dX3_apply_5 rfl hl (by decide) rfl (fun ls hl => ?_)
  refine lv_aload_n hx hb dX3_apply_6 rfl (lv_at hl 1 rfl) ?_
  refine lv_iload_n hx hb dX3_apply_7 rfl (lv_at hl 3 rfl) ?_
  rcases pa_dec σ pi with hP | ⟨n, hn, rfl | rfl⟩
  · skip
    refine k_callX (va_runV (As := [.int (pi)]) (rest := []) ⟨hx, hb, hml, hown, hts⟩ (c_X3_changedBy_n l D g b0 H A σ dw hC pi hP.1 hP.2) (cwV 1 hts gX3_apply_X3_changedBy rfl rfl rfl (by decide +kernel) ⟨Nat.le_of_ble_eq_true rfl, Nat.le_of_ble_eq_true rfl⟩) ⟨kPc_blind, k_recv hK hC.o rfl, fun U hU hW => kPc_at hK hU hW⟩ rfl rfl hl.1 rfl (lv_room (Nat.le_of_ble_eq_true rfl)) dX3_apply_8 ⟨Nat.le_of_ble_eq_true rfl, Nat.le_of_ble_eq_true rfl⟩) ?_
    refine lv_astoreN (lv' := [(4, .null), (3, .null), (0, .ref (A 0)), (1, .int (bi)), (2, .int (pi))]) hx hb dX3_apply_11 hl (by decide) rfl (fun ls hl => ?_)
    refine lv_aload_nN hx hb dX3_apply_13 rfl (lv_at hl 1 rfl) ?_
    refine lv_ifnullN (tgt := 22) hx hb dX3_apply_14 (by decide) ?_
    refine lv_iconst (v := (-1)) hx hb dX3_apply_22 (by decide +kernel) ?_
    exact r_iI hx hb hr LB.nil (Nat.le_of_ble_eq_true rfl) (Nat.le_of_ble_eq_true rfl) ⟨A, σ, dw, hC, CFr.rf, Or.inl ⟨Or.inl hN, rfl, rfl⟩⟩ dX3_apply_23 hlocks
  · skip
    refine k_callX (va_runV (As := [.int (nI n)]) (rest := []) ⟨hx, hb, hml, hown, hts⟩ (c_X3_changedBy_y1 l D g b0 H A σ dw hC n hn) (cwV 1 hts gX3_apply_X3_changedBy rfl rfl rfl (by decide +kernel) ⟨Nat.le_of_ble_eq_true rfl, Nat.le_of_ble_eq_true rfl⟩) ⟨kPc_blind, k_recv hK hC.o rfl, fun U hU hW => kPc_at hK hU hW⟩ rfl rfl hl.1 rfl (lv_room (Nat.le_of_ble_eq_true rfl)) dX3_apply_8 ⟨Nat.le_of_ble_eq_true rfl, Nat.le_of_ble_eq_true rfl⟩) ?_
    refine lv_astore (lv' := [(4, .ref (A (16 + 4 * n))), (3, .null), (0, .ref (A 0)), (1, .int (bi)), (2, .int (nI n))]) hx hb dX3_apply_11 hl (by decide) rfl (fun ls hl => ?_)
    refine lv_aload_nN hx hb dX3_apply_13 rfl (lv_at hl 1 rfl) ?_
    refine lv_ifnullN (tgt := 22) hx hb dX3_apply_14 (by decide) ?_
    refine lv_iconst (v := (-1)) hx hb dX3_apply_22 (by decide +kernel) ?_
    exact r_iI hx hb hr LB.nil (Nat.le_of_ble_eq_true rfl) (Nat.le_of_ble_eq_true rfl) ⟨A, σ, dw, hC, CFr.rf, Or.inl ⟨Or.inl hN, rfl, rfl⟩⟩ dX3_apply_23 hlocks
  · skip
    refine k_callX (va_runV (As := [.int ((-1) - nI n)]) (rest := []) ⟨hx, hb, hml, hown, hts⟩ (c_X3_changedBy_y2 l D g b0 H A σ dw hC n hn) (cwV 1 hts gX3_apply_X3_changedBy rfl rfl rfl (by decide +kernel) ⟨Nat.le_of_ble_eq_true rfl, Nat.le_of_ble_eq_true rfl⟩) ⟨kPc_blind, k_recv hK hC.o rfl, fun U hU hW => kPc_at hK hU hW⟩ rfl rfl hl.1 rfl (lv_room (Nat.le_of_ble_eq_true rfl)) dX3_apply_8 ⟨Nat.le_of_ble_eq_true rfl, Nat.le_of_ble_eq_true rfl⟩) ?_
    refine lv_astore (lv' := [(4, .ref (A (16 + 4 * n))), (3, .null), (0, .ref (A 0)), (1, .int (bi)), (2, .int ((-1) - nI n))]) hx hb dX3_apply_11 hl (by decide) rfl (fun ls hl => ?_)
    refine lv_aload_nN hx hb dX3_apply_13 rfl (lv_at hl 1 rfl) ?_
    refine lv_ifnullN (tgt := 22) hx hb dX3_apply_14 (by decide) ?_
    refine lv_iconst (v := (-1)) hx hb dX3_apply_22 (by decide +kernel) ?_
    exact r_iI hx hb hr LB.nil (Nat.le_of_ble_eq_true rfl) (Nat.le_of_ble_eq_true rfl) ⟨A, σ, dw, hC, CFr.rf, Or.inl ⟨Or.inl hN, rfl, rfl⟩⟩ dX3_apply_23 hlocks
set_option maxHeartbeats 4000000 in
set_option maxRecDepth 100000 in
/-- apply_n2 -/
theorem c_X3_apply_n2 (l : Launch) (D : va_G) (g : Nat → ClassId) (b0 : Nat) (H : Heap) (A : Nat → Nat) (σ : SG) (dw : Nat → Int64) (hC : CR D g b0 A σ dw H) (hbH : b0 ≤ H.size) (b : Nat) (hb4 : b < sB σ) (pi : Int32) (hP : PaN σ pi) : Met l yX3_apply wsX3_apply ({ frames := 6, cells := 4, slots := 470, locals := 157 } : Room) (kPc D g [.ref (A 0), .int (nI b), .int (pi)] H) (kI (PubQ D g b0 H A σ (SpApply σ (nI b) pi))) 4 470 (kF b0) := by
  refine Met.ofW (cc := cX3_apply) (maxL := 5) (ret := (some .int)) (by decide) rfl ?_
  intro p e s m args below meth c s₁ B hml hv
  obtain ⟨rfl, hH, hK⟩ := hv
  have hx := B.exec
  have hb := B.bytes
  have hr := B.returns
  have hts := atoms_spec (ws := wsX3_apply) B.pre
  have hown : s.vm.findClass RX3 = some m.cls := findClass_of_methodNamed B.named
  have hlocks := B.notSynchronized
  rw [hH]
  have hl := lv_entry ([.ref (A 0), .int (nI b), .int (pi)]) (n := 5) (Nat.le_of_ble_eq_true rfl)
  rw [lg_entry_eq]
  generalize (lg_sl ([.ref (A 0), .int (nI b), .int (pi)]) ++ List.replicate (5 - (lg_sl ([.ref (A 0), .int (nI b), .int (pi)])).length) Slot.unset).toArray = ls at hl ⊢
  have hl : lv_has ls 5 [(0, .ref (A 0)), (1, .int (nI b)), (2, .int (pi))] := hl
  have hVB := hC.wf
  have hV4 : sV σ ≤ 400 := hVB.2.1
  have hB4 : sB σ ≤ 40 := hVB.2.2.2.1
  refine lv_aload_n hx hb dX3_apply_0 rfl (lv_at hl 0 rfl) ?_
  refine lv_iload_n hx hb dX3_apply_1 rfl (lv_at hl 1 rfl) ?_
  refine k_callX (va_runV (As := [.int (nI b)]) (rest := []) ⟨hx, hb, hml, hown, hts⟩ (c_X3_branchAt_y l D g b0 H A σ dw hC b hb4) (cwV 1 hts gX3_apply_X3_branchAt rfl rfl rfl (by decide +kernel) ⟨Nat.le_of_ble_eq_true rfl, Nat.le_of_ble_eq_true rfl⟩) ⟨kPc_blind, k_recv hK hC.o rfl, fun U hU hW => kPc_at hK hU hW⟩ rfl rfl hl.1 rfl (lv_room (Nat.le_of_ble_eq_true rfl)) dX3_apply_2 ⟨Nat.le_of_ble_eq_true rfl, Nat.le_of_ble_eq_true rfl⟩) ?_
  refine lv_astore_n (lv' := [(3, .ref (A (2000 + b))), (0, .ref (A 0)), (1, .int (nI b)), (2, .int (pi))]) hx hb dX3_apply_5 rfl hl (by decide) rfl (fun ls hl => ?_)
  refine lv_aload_n hx hb dX3_apply_6 rfl (lv_at hl 1 rfl) ?_
  refine lv_iload_n hx hb dX3_apply_7 rfl (lv_at hl 3 rfl) ?_
  refine k_callX (va_runV (As := [.int (pi)]) (rest := []) ⟨hx, hb, hml, hown, hts⟩ (c_X3_changedBy_n l D g b0 H A σ dw hC pi hP.1 hP.2) (cwV 1 hts gX3_apply_X3_changedBy rfl rfl rfl (by decide +kernel) ⟨Nat.le_of_ble_eq_true rfl, Nat.le_of_ble_eq_true rfl⟩) ⟨kPc_blind, k_recv hK hC.o rfl, fun U hU hW => kPc_at hK hU hW⟩ rfl rfl hl.1 rfl (lv_room (Nat.le_of_ble_eq_true rfl)) dX3_apply_8 ⟨Nat.le_of_ble_eq_true rfl, Nat.le_of_ble_eq_true rfl⟩) ?_
  refine lv_astoreN (lv' := [(4, .null), (3, .ref (A (2000 + b))), (0, .ref (A 0)), (1, .int (nI b)), (2, .int (pi))]) hx hb dX3_apply_11 hl (by decide) rfl (fun ls hl => ?_)
  refine lv_aload_n hx hb dX3_apply_13 rfl (lv_at hl 1 rfl) ?_
  refine lv_ifnull hx hb dX3_apply_14 ?_
  refine lv_aloadN hx hb dX3_apply_17 (lv_at hl 0 rfl) ?_
  refine lv_ifnonnullN hx hb dX3_apply_19 ?_
  refine lv_iconst (v := (-1)) hx hb dX3_apply_22 (by decide +kernel) ?_
  exact r_iI hx hb hr LB.nil (Nat.le_of_ble_eq_true rfl) (Nat.le_of_ble_eq_true rfl) ⟨A, σ, dw, hC, CFr.rf, Or.inl ⟨Or.inr hP, rfl, rfl⟩⟩ dX3_apply_23 hlocks
set_option maxHeartbeats 4000000 in
set_option maxRecDepth 100000 in
/-- apply_y1 -/
theorem c_X3_apply_y1 (l : Launch) (D : va_G) (g : Nat → ClassId) (b0 : Nat) (H : Heap) (A : Nat → Nat) (σ : SG) (dw : Nat → Int64) (hC : CR D g b0 A σ dw H) (hbH : b0 ≤ H.size) (b : Nat) (hb4 : b < sB σ) (n : Nat) (hn : n < sV σ) : Met l yX3_apply wsX3_apply ({ frames := 6, cells := 4, slots := 470, locals := 157 } : Room) (kPc D g [.ref (A 0), .int (nI b), .int (nI n)] H) (kI (PubQ D g b0 H A σ (SpApply σ (nI b) (nI n)))) 4 470 (kF b0) := by
  refine Met.ofW (cc := cX3_apply) (maxL := 5) (ret := (some .int)) (by decide) rfl ?_
  intro p e s m args below meth c s₁ B hml hv
  obtain ⟨rfl, hH, hK⟩ := hv
  have hx := B.exec
  have hb := B.bytes
  have hr := B.returns
  have hts := atoms_spec (ws := wsX3_apply) B.pre
  have hown : s.vm.findClass RX3 = some m.cls := findClass_of_methodNamed B.named
  have hlocks := B.notSynchronized
  rw [hH]
  have hl := lv_entry ([.ref (A 0), .int (nI b), .int (nI n)]) (n := 5) (Nat.le_of_ble_eq_true rfl)
  rw [lg_entry_eq]
  generalize (lg_sl ([.ref (A 0), .int (nI b), .int (nI n)]) ++ List.replicate (5 - (lg_sl ([.ref (A 0), .int (nI b), .int (nI n)])).length) Slot.unset).toArray = ls at hl ⊢
  have hl : lv_has ls 5 [(0, .ref (A 0)), (1, .int (nI b)), (2, .int (nI n))] := hl
  have hVB := hC.wf
  have hV4 : sV σ ≤ 400 := hVB.2.1
  have hB4 : sB σ ≤ 40 := hVB.2.2.2.1
  have hhd := hVB.2.2.2.2.1 b hb4
  obtain ⟨hbf, hbw, hbl1, hbl2, hbr⟩ := hC.bef hn
  have htl1 : cLive σ (17 + 4 * n) := clV n hn (by omega) (by omega)
  have htl2 : cLive σ (17 + 4 * n + 1) := clV n hn (by omega) (by omega)
  have hts1 : HA D H (A (17 + 4 * n)) (eO 1 [.ref (A (17 + 4 * n + 1))]) := by have := hC.ts hn; rw [show 18 + 4 * n = 17 + 4 * n + 1 by omega] at this; exact this
  have htw1 : HA D H (A (17 + 4 * n + 1)) (eL (g 2) 64 (sW σ n)) := by have := hC.tw hn; rw [show 18 + 4 * n = 17 + 4 * n + 1 by omega] at this; exact this
  refine lv_aload_n hx hb dX3_apply_0 rfl (lv_at hl 0 rfl) ?_
  refine lv_iload_n hx hb dX3_apply_1 rfl (lv_at hl 1 rfl) ?_
  refine k_callX (va_runV (As := [.int (nI b)]) (rest := []) ⟨hx, hb, hml, hown, hts⟩ (c_X3_branchAt_y l D g b0 H A σ dw hC b hb4) (cwV 1 hts gX3_apply_X3_branchAt rfl rfl rfl (by decide +kernel) ⟨Nat.le_of_ble_eq_true rfl, Nat.le_of_ble_eq_true rfl⟩) ⟨kPc_blind, k_recv hK hC.o rfl, fun U hU hW => kPc_at hK hU hW⟩ rfl rfl hl.1 rfl (lv_room (Nat.le_of_ble_eq_true rfl)) dX3_apply_2 ⟨Nat.le_of_ble_eq_true rfl, Nat.le_of_ble_eq_true rfl⟩) ?_
  refine lv_astore_n (lv' := [(3, .ref (A (2000 + b))), (0, .ref (A 0)), (1, .int (nI b)), (2, .int (nI n))]) hx hb dX3_apply_5 rfl hl (by decide) rfl (fun ls hl => ?_)
  refine lv_aload_n hx hb dX3_apply_6 rfl (lv_at hl 1 rfl) ?_
  refine lv_iload_n hx hb dX3_apply_7 rfl (lv_at hl 3 rfl) ?_
  refine k_callX (va_runV (As := [.int (nI n)]) (rest := []) ⟨hx, hb, hml, hown, hts⟩ (c_X3_changedBy_y1 l D g b0 H A σ dw hC n hn) (cwV 1 hts gX3_apply_X3_changedBy rfl rfl rfl (by decide +kernel) ⟨Nat.le_of_ble_eq_true rfl, Nat.le_of_ble_eq_true rfl⟩) ⟨kPc_blind, k_recv hK hC.o rfl, fun U hU hW => kPc_at hK hU hW⟩ rfl rfl hl.1 rfl (lv_room (Nat.le_of_ble_eq_true rfl)) dX3_apply_8 ⟨Nat.le_of_ble_eq_true rfl, Nat.le_of_ble_eq_true rfl⟩) ?_
  refine lv_astore (lv' := [(4, .ref (A (16 + 4 * n))), (3, .ref (A (2000 + b))), (0, .ref (A 0)), (1, .int (nI b)), (2, .int (nI n))]) hx hb dX3_apply_11 hl (by decide) rfl (fun ls hl => ?_)
  refine lv_aload_n hx hb dX3_apply_13 rfl (lv_at hl 1 rfl) ?_
  refine lv_ifnull hx hb dX3_apply_14 ?_
  refine lv_aload hx hb dX3_apply_17 (lv_at hl 0 rfl) ?_
  refine lv_ifnonnull (tgt := 24) hx hb dX3_apply_19 (by decide) ?_
  refine lv_iload_n hx hb dX3_apply_24 rfl (lv_at hl 4 rfl) ?_
  refine n_if_lt (tgt := 45) hx hb dX3_apply_25 (by decide) (by omega) ?_
  refine lv_aload_n hx hb dX3_apply_28 rfl (lv_at hl 2 rfl) ?_
  refine lv_aload_n hx hb dX3_apply_29 rfl (lv_at hl 1 rfl) ?_
  refine lv_aload_n hx hb dX3_apply_30 rfl (lv_at hl 2 rfl) ?_
  refine lv_aload hx hb dX3_apply_31 (lv_at hl 0 rfl) ?_
  refine k_callX (va_runV (As := [.ref (A (16 + 4 * n))]) (rest := [.ref (A (2000 + b)), .ref (A 0)]) ⟨hx, hb, hml, hown, hts⟩ (c_X3_setBefore l D g b0 H A σ dw hC n hn) (cwV 1 hts gX3_apply_X3_setBefore rfl rfl rfl (by decide +kernel) ⟨Nat.le_of_ble_eq_true rfl, Nat.le_of_ble_eq_true rfl⟩) ⟨kPc_blind, k_recv hK hC.o rfl, fun U hU hW => kPc_at hK hU hW⟩ rfl rfl hl.1 rfl (lv_room (Nat.le_of_ble_eq_true rfl)) dX3_apply_33 ⟨Nat.le_of_ble_eq_true rfl, Nat.le_of_ble_eq_true rfl⟩) ?_
  refine lv_aload hx hb dX3_apply_36 (lv_at hl 0 rfl) ?_
  refine k_getN (ci := 2) (C := RX2) (T := TX2) (N := 5) (v := .ref (A (17 + 4 * n))) hx hb hts (by decide +kernel) hown hK (hC.ver hn) rfl 3 (by decide) rfl (List.mem_of_getElem? (i := 3) rfl) rfl dX3_apply_38 ?_
  refine k_callI (va_runV (As := [.ref (A (2000 + b)), .ref (A (befC σ n)), .ref (A (17 + 4 * n))]) (rest := []) ⟨hx, hb, hml, hown, hts⟩ (c_X3_lay l D g b0 H A σ dw hC hbH b hb4 (befC σ n) (17 + 4 * n) (befW σ n) (sW σ n) hbl1 hbl2 (by omega) (by omega) hbf hbw htl1 htl2 (by omega) (by omega) hts1 htw1) (cwV 3 hts gX3_apply_X3_lay rfl rfl rfl (by decide +kernel) ⟨Nat.le_of_ble_eq_true rfl, Nat.le_of_ble_eq_true rfl⟩) ⟨kPc_blind, k_recv hK hC.o rfl, fun U hU hW => kPc_at hK hU hW⟩ rfl rfl hl.1 rfl (lv_room (Nat.le_of_ble_eq_true rfl)) dX3_apply_41 ⟨Nat.le_of_ble_eq_true rfl, Nat.le_of_ble_eq_true rfl⟩) LB.nil (fun ra Hz locsz hLBz hqz => ?_)
  refine W.widen (k := 4) (n := 470) (Nat.le_of_ble_eq_true rfl) (Nat.le_of_ble_eq_true rfl) ?_
  obtain ⟨Az, σz, dwz, hCz, hFz, hsz⟩ := hqz
  exact r_iI hx hb hr hLBz (Nat.le_of_ble_eq_true rfl) (Nat.le_of_ble_eq_true rfl) ⟨Az, σz, dwz, hCz, hFz, Or.inr ⟨b, n, hb4, hn, rfl, Or.inl ⟨rfl, hsz⟩⟩⟩ dX3_apply_44 hlocks
set_option maxHeartbeats 4000000 in
set_option maxRecDepth 100000 in
/-- apply_y2 -/
theorem c_X3_apply_y2 (l : Launch) (D : va_G) (g : Nat → ClassId) (b0 : Nat) (H : Heap) (A : Nat → Nat) (σ : SG) (dw : Nat → Int64) (hC : CR D g b0 A σ dw H) (hbH : b0 ≤ H.size) (b : Nat) (hb4 : b < sB σ) (n : Nat) (hn : n < sV σ) : Met l yX3_apply wsX3_apply ({ frames := 6, cells := 4, slots := 470, locals := 157 } : Room) (kPc D g [.ref (A 0), .int (nI b), .int ((-1) - nI n)] H) (kI (PubQ D g b0 H A σ (SpApply σ (nI b) ((-1) - nI n)))) 4 470 (kF b0) := by
  refine Met.ofW (cc := cX3_apply) (maxL := 5) (ret := (some .int)) (by decide) rfl ?_
  intro p e s m args below meth c s₁ B hml hv
  obtain ⟨rfl, hH, hK⟩ := hv
  have hx := B.exec
  have hb := B.bytes
  have hr := B.returns
  have hts := atoms_spec (ws := wsX3_apply) B.pre
  have hown : s.vm.findClass RX3 = some m.cls := findClass_of_methodNamed B.named
  have hlocks := B.notSynchronized
  rw [hH]
  have hl := lv_entry ([.ref (A 0), .int (nI b), .int ((-1) - nI n)]) (n := 5) (Nat.le_of_ble_eq_true rfl)
  rw [lg_entry_eq]
  generalize (lg_sl ([.ref (A 0), .int (nI b), .int ((-1) - nI n)]) ++ List.replicate (5 - (lg_sl ([.ref (A 0), .int (nI b), .int ((-1) - nI n)])).length) Slot.unset).toArray = ls at hl ⊢
  have hl : lv_has ls 5 [(0, .ref (A 0)), (1, .int (nI b)), (2, .int ((-1) - nI n))] := hl
  have hVB := hC.wf
  have hV4 : sV σ ≤ 400 := hVB.2.1
  have hB4 : sB σ ≤ 40 := hVB.2.2.2.1
  have hhd := hVB.2.2.2.2.1 b hb4
  obtain ⟨hbf, hbw, hbl1, hbl2, hbr⟩ := hC.bef hn
  have htl1 : cLive σ (17 + 4 * n) := clV n hn (by omega) (by omega)
  have htl2 : cLive σ (17 + 4 * n + 1) := clV n hn (by omega) (by omega)
  have hts1 : HA D H (A (17 + 4 * n)) (eO 1 [.ref (A (17 + 4 * n + 1))]) := by have := hC.ts hn; rw [show 18 + 4 * n = 17 + 4 * n + 1 by omega] at this; exact this
  have htw1 : HA D H (A (17 + 4 * n + 1)) (eL (g 2) 64 (sW σ n)) := by have := hC.tw hn; rw [show 18 + 4 * n = 17 + 4 * n + 1 by omega] at this; exact this
  refine lv_aload_n hx hb dX3_apply_0 rfl (lv_at hl 0 rfl) ?_
  refine lv_iload_n hx hb dX3_apply_1 rfl (lv_at hl 1 rfl) ?_
  refine k_callX (va_runV (As := [.int (nI b)]) (rest := []) ⟨hx, hb, hml, hown, hts⟩ (c_X3_branchAt_y l D g b0 H A σ dw hC b hb4) (cwV 1 hts gX3_apply_X3_branchAt rfl rfl rfl (by decide +kernel) ⟨Nat.le_of_ble_eq_true rfl, Nat.le_of_ble_eq_true rfl⟩) ⟨kPc_blind, k_recv hK hC.o rfl, fun U hU hW => kPc_at hK hU hW⟩ rfl rfl hl.1 rfl (lv_room (Nat.le_of_ble_eq_true rfl)) dX3_apply_2 ⟨Nat.le_of_ble_eq_true rfl, Nat.le_of_ble_eq_true rfl⟩) ?_
  refine lv_astore_n (lv' := [(3, .ref (A (2000 + b))), (0, .ref (A 0)), (1, .int (nI b)), (2, .int ((-1) - nI n))]) hx hb dX3_apply_5 rfl hl (by decide) rfl (fun ls hl => ?_)
  refine lv_aload_n hx hb dX3_apply_6 rfl (lv_at hl 1 rfl) ?_
  refine lv_iload_n hx hb dX3_apply_7 rfl (lv_at hl 3 rfl) ?_
  refine k_callX (va_runV (As := [.int ((-1) - nI n)]) (rest := []) ⟨hx, hb, hml, hown, hts⟩ (c_X3_changedBy_y2 l D g b0 H A σ dw hC n hn) (cwV 1 hts gX3_apply_X3_changedBy rfl rfl rfl (by decide +kernel) ⟨Nat.le_of_ble_eq_true rfl, Nat.le_of_ble_eq_true rfl⟩) ⟨kPc_blind, k_recv hK hC.o rfl, fun U hU hW => kPc_at hK hU hW⟩ rfl rfl hl.1 rfl (lv_room (Nat.le_of_ble_eq_true rfl)) dX3_apply_8 ⟨Nat.le_of_ble_eq_true rfl, Nat.le_of_ble_eq_true rfl⟩) ?_
  refine lv_astore (lv' := [(4, .ref (A (16 + 4 * n))), (3, .ref (A (2000 + b))), (0, .ref (A 0)), (1, .int (nI b)), (2, .int ((-1) - nI n))]) hx hb dX3_apply_11 hl (by decide) rfl (fun ls hl => ?_)
  refine lv_aload_n hx hb dX3_apply_13 rfl (lv_at hl 1 rfl) ?_
  refine lv_ifnull hx hb dX3_apply_14 ?_
  refine lv_aload hx hb dX3_apply_17 (lv_at hl 0 rfl) ?_
  refine lv_ifnonnull (tgt := 24) hx hb dX3_apply_19 (by decide) ?_
  refine lv_iload_n hx hb dX3_apply_24 rfl (lv_at hl 4 rfl) ?_
  refine lv_if_lt (tgt := 45) hx hb dX3_apply_25 (by decide) (fun c_770 => ?_) (fun c_770 => ?_)
  · skip
    refine lv_aload_n hx hb dX3_apply_45 rfl (lv_at hl 2 rfl) ?_
    refine lv_aload_n hx hb dX3_apply_46 rfl (lv_at hl 1 rfl) ?_
    refine lv_aload hx hb dX3_apply_47 (lv_at hl 0 rfl) ?_
    refine k_getN (ci := 2) (C := RX2) (T := TX2) (N := 5) (v := .ref (A (17 + 4 * n))) hx hb hts (by decide +kernel) hown hK (hC.ver hn) rfl 3 (by decide) rfl (List.mem_of_getElem? (i := 3) rfl) rfl dX3_apply_49 ?_
    refine lv_aload_n hx hb dX3_apply_52 rfl (lv_at hl 2 rfl) ?_
    refine lv_aload hx hb dX3_apply_53 (lv_at hl 0 rfl) ?_
    refine k_callX (va_runV (As := [.ref (A (16 + 4 * n))]) (rest := [.ref (A (17 + 4 * n)), .ref (A (2000 + b)), .ref (A 0)]) ⟨hx, hb, hml, hown, hts⟩ (c_X3_setBefore l D g b0 H A σ dw hC n hn) (cwV 1 hts gX3_apply_X3_setBefore rfl rfl rfl (by decide +kernel) ⟨Nat.le_of_ble_eq_true rfl, Nat.le_of_ble_eq_true rfl⟩) ⟨kPc_blind, k_recv hK hC.o rfl, fun U hU hW => kPc_at hK hU hW⟩ rfl rfl hl.1 rfl (lv_room (Nat.le_of_ble_eq_true rfl)) dX3_apply_55 ⟨Nat.le_of_ble_eq_true rfl, Nat.le_of_ble_eq_true rfl⟩) ?_
    refine k_callI (va_runV (As := [.ref (A (2000 + b)), .ref (A (17 + 4 * n)), .ref (A (befC σ n))]) (rest := []) ⟨hx, hb, hml, hown, hts⟩ (c_X3_lay l D g b0 H A σ dw hC hbH b hb4 (17 + 4 * n) (befC σ n) (sW σ n) (befW σ n) htl1 htl2 (by omega) (by omega) hts1 htw1 hbl1 hbl2 (by omega) (by omega) hbf hbw) (cwV 3 hts gX3_apply_X3_lay rfl rfl rfl (by decide +kernel) ⟨Nat.le_of_ble_eq_true rfl, Nat.le_of_ble_eq_true rfl⟩) ⟨kPc_blind, k_recv hK hC.o rfl, fun U hU hW => kPc_at hK hU hW⟩ rfl rfl hl.1 rfl (lv_room (Nat.le_of_ble_eq_true rfl)) dX3_apply_58 ⟨Nat.le_of_ble_eq_true rfl, Nat.le_of_ble_eq_true rfl⟩) LB.nil (fun ra Hz locsz hLBz hqz => ?_)
    refine W.widen (k := 4) (n := 470) (Nat.le_of_ble_eq_true rfl) (Nat.le_of_ble_eq_true rfl) ?_
    obtain ⟨Az, σz, dwz, hCz, hFz, hsz⟩ := hqz
    exact r_iI hx hb hr hLBz (Nat.le_of_ble_eq_true rfl) (Nat.le_of_ble_eq_true rfl) ⟨Az, σz, dwz, hCz, hFz, Or.inr ⟨b, n, hb4, hn, rfl, Or.inr ⟨rfl, hsz⟩⟩⟩ dX3_apply_61 hlocks
  · skip
    exact absurd (neg_lt (by omega)) c_770
theorem c_X3_apply (l : Launch) (D : va_G) (g : Nat → ClassId) (b0 : Nat) (H : Heap) (A : Nat → Nat) (σ : SG) (dw : Nat → Int64) (hC : CR D g b0 A σ dw H) (hbH : b0 ≤ H.size) (bi pi : Int32) : Met l yX3_apply wsX3_apply ({ frames := 6, cells := 4, slots := 470, locals := 157 } : Room) (kPc D g [.ref (A 0), .int bi, .int pi] H) (kI (PubQ D g b0 H A σ (SpApply σ bi pi))) 4 470 (kF b0) := by
  rcases br_dec σ bi with h | ⟨b, hb4, rfl⟩
  · exact c_X3_apply_n1 l D g b0 H A σ dw hC hbH bi pi h
  · rcases pa_dec σ pi with h | ⟨n, hn, rfl | rfl⟩
    · exact c_X3_apply_n2 l D g b0 H A σ dw hC hbH b hb4 pi h
    · exact c_X3_apply_y1 l D g b0 H A σ dw hC hbH b hb4 n hn
    · exact c_X3_apply_y2 l D g b0 H A σ dw hC hbH b hb4 n hn
set_option maxHeartbeats 4000000 in
set_option maxRecDepth 100000 in
/-- revert_n1 -/
theorem c_X3_revert_n1 (l : Launch) (D : va_G) (g : Nat → ClassId) (b0 : Nat) (H : Heap) (A : Nat → Nat) (σ : SG) (dw : Nat → Int64) (hC : CR D g b0 A σ dw H) (hbH : b0 ≤ H.size) (bi ni : Int32) (hN : BrN σ bi) : Met l yX3_revert wsX3_revert ({ frames := 6, cells := 4, slots := 470, locals := 157 } : Room) (kPc D g [.ref (A 0), .int (bi), .int (ni)] H) (kI (PubQ D g b0 H A σ (SpRevert σ bi ni))) 4 470 (kF b0) := by
  refine Met.ofW (cc := cX3_revert) (maxL := 5) (ret := (some .int)) (by decide) rfl ?_
  intro p e s m args below meth c s₁ B hml hv
  obtain ⟨rfl, hH, hK⟩ := hv
  have hx := B.exec
  have hb := B.bytes
  have hr := B.returns
  have hts := atoms_spec (ws := wsX3_revert) B.pre
  have hown : s.vm.findClass RX3 = some m.cls := findClass_of_methodNamed B.named
  have hlocks := B.notSynchronized
  rw [hH]
  have hl := lv_entry ([.ref (A 0), .int (bi), .int (ni)]) (n := 5) (Nat.le_of_ble_eq_true rfl)
  rw [lg_entry_eq]
  generalize (lg_sl ([.ref (A 0), .int (bi), .int (ni)]) ++ List.replicate (5 - (lg_sl ([.ref (A 0), .int (bi), .int (ni)])).length) Slot.unset).toArray = ls at hl ⊢
  have hl : lv_has ls 5 [(0, .ref (A 0)), (1, .int (bi)), (2, .int (ni))] := hl
  have hVB := hC.wf
  have hV4 : sV σ ≤ 400 := hVB.2.1
  have hB4 : sB σ ≤ 40 := hVB.2.2.2.1
  refine lv_aload_n hx hb dX3_revert_0 rfl (lv_at hl 0 rfl) ?_
  refine lv_iload_n hx hb dX3_revert_1 rfl (lv_at hl 1 rfl) ?_
  refine k_callX (va_runV (As := [.int (bi)]) (rest := []) ⟨hx, hb, hml, hown, hts⟩ (c_X3_branchAt_n l D g b0 H A σ dw hC bi hN) (cwV 1 hts gX3_revert_X3_branchAt rfl rfl rfl (by decide +kernel) ⟨Nat.le_of_ble_eq_true rfl, Nat.le_of_ble_eq_true rfl⟩) ⟨kPc_blind, k_recv hK hC.o rfl, fun U hU hW => kPc_at hK hU hW⟩ rfl rfl hl.1 rfl (lv_room (Nat.le_of_ble_eq_true rfl)) dX3_revert_2 ⟨Nat.le_of_ble_eq_true rfl, Nat.le_of_ble_eq_true rfl⟩) ?_
  refine lv_astore_nN (lv' := [(3, .null), (0, .ref (A 0)), (1, .int (bi)), (2, .int (ni))]) hx hb dX3_revert_5 rfl hl (by decide) rfl (fun ls hl => ?_)
  refine lv_aload_n hx hb dX3_revert_6 rfl (lv_at hl 1 rfl) ?_
  refine lv_iload_n hx hb dX3_revert_7 rfl (lv_at hl 3 rfl) ?_
  rcases ve_dec σ ni with hM | ⟨n, hn, rfl⟩
  · skip
    refine k_callX (va_runV (As := [.int (ni)]) (rest := []) ⟨hx, hb, hml, hown, hts⟩ (c_X3_versionAt_n l D g b0 H A σ dw hC ni hM) (cwV 1 hts gX3_revert_X3_versionAt rfl rfl rfl (by decide +kernel) ⟨Nat.le_of_ble_eq_true rfl, Nat.le_of_ble_eq_true rfl⟩) ⟨kPc_blind, k_recv hK hC.o rfl, fun U hU hW => kPc_at hK hU hW⟩ rfl rfl hl.1 rfl (lv_room (Nat.le_of_ble_eq_true rfl)) dX3_revert_8 ⟨Nat.le_of_ble_eq_true rfl, Nat.le_of_ble_eq_true rfl⟩) ?_
    refine lv_astoreN (lv' := [(4, .null), (3, .null), (0, .ref (A 0)), (1, .int (bi)), (2, .int (ni))]) hx hb dX3_revert_11 hl (by decide) rfl (fun ls hl => ?_)
    refine lv_aload_nN hx hb dX3_revert_13 rfl (lv_at hl 1 rfl) ?_
    refine lv_ifnullN (tgt := 22) hx hb dX3_revert_14 (by decide) ?_
    refine lv_iconst (v := (-1)) hx hb dX3_revert_22 (by decide +kernel) ?_
    exact r_iI hx hb hr LB.nil (Nat.le_of_ble_eq_true rfl) (Nat.le_of_ble_eq_true rfl) ⟨A, σ, dw, hC, CFr.rf, Or.inl ⟨Or.inl hN, rfl, rfl⟩⟩ dX3_revert_23 hlocks
  · skip
    refine k_callX (va_runV (As := [.int (nI n)]) (rest := []) ⟨hx, hb, hml, hown, hts⟩ (c_X3_versionAt_y l D g b0 H A σ dw hC n hn) (cwV 1 hts gX3_revert_X3_versionAt rfl rfl rfl (by decide +kernel) ⟨Nat.le_of_ble_eq_true rfl, Nat.le_of_ble_eq_true rfl⟩) ⟨kPc_blind, k_recv hK hC.o rfl, fun U hU hW => kPc_at hK hU hW⟩ rfl rfl hl.1 rfl (lv_room (Nat.le_of_ble_eq_true rfl)) dX3_revert_8 ⟨Nat.le_of_ble_eq_true rfl, Nat.le_of_ble_eq_true rfl⟩) ?_
    refine lv_astore (lv' := [(4, .ref (A (16 + 4 * n))), (3, .null), (0, .ref (A 0)), (1, .int (bi)), (2, .int (nI n))]) hx hb dX3_revert_11 hl (by decide) rfl (fun ls hl => ?_)
    refine lv_aload_nN hx hb dX3_revert_13 rfl (lv_at hl 1 rfl) ?_
    refine lv_ifnullN (tgt := 22) hx hb dX3_revert_14 (by decide) ?_
    refine lv_iconst (v := (-1)) hx hb dX3_revert_22 (by decide +kernel) ?_
    exact r_iI hx hb hr LB.nil (Nat.le_of_ble_eq_true rfl) (Nat.le_of_ble_eq_true rfl) ⟨A, σ, dw, hC, CFr.rf, Or.inl ⟨Or.inl hN, rfl, rfl⟩⟩ dX3_revert_23 hlocks
set_option maxHeartbeats 4000000 in
set_option maxRecDepth 100000 in
/-- revert_n2 -/
theorem c_X3_revert_n2 (l : Launch) (D : va_G) (g : Nat → ClassId) (b0 : Nat) (H : Heap) (A : Nat → Nat) (σ : SG) (dw : Nat → Int64) (hC : CR D g b0 A σ dw H) (hbH : b0 ≤ H.size) (b : Nat) (hb4 : b < sB σ) (ni : Int32) (hM : VeN σ ni) : Met l yX3_revert wsX3_revert ({ frames := 6, cells := 4, slots := 470, locals := 157 } : Room) (kPc D g [.ref (A 0), .int (nI b), .int (ni)] H) (kI (PubQ D g b0 H A σ (SpRevert σ (nI b) ni))) 4 470 (kF b0) := by
  refine Met.ofW (cc := cX3_revert) (maxL := 5) (ret := (some .int)) (by decide) rfl ?_
  intro p e s m args below meth c s₁ B hml hv
  obtain ⟨rfl, hH, hK⟩ := hv
  have hx := B.exec
  have hb := B.bytes
  have hr := B.returns
  have hts := atoms_spec (ws := wsX3_revert) B.pre
  have hown : s.vm.findClass RX3 = some m.cls := findClass_of_methodNamed B.named
  have hlocks := B.notSynchronized
  rw [hH]
  have hl := lv_entry ([.ref (A 0), .int (nI b), .int (ni)]) (n := 5) (Nat.le_of_ble_eq_true rfl)
  rw [lg_entry_eq]
  generalize (lg_sl ([.ref (A 0), .int (nI b), .int (ni)]) ++ List.replicate (5 - (lg_sl ([.ref (A 0), .int (nI b), .int (ni)])).length) Slot.unset).toArray = ls at hl ⊢
  have hl : lv_has ls 5 [(0, .ref (A 0)), (1, .int (nI b)), (2, .int (ni))] := hl
  have hVB := hC.wf
  have hV4 : sV σ ≤ 400 := hVB.2.1
  have hB4 : sB σ ≤ 40 := hVB.2.2.2.1
  refine lv_aload_n hx hb dX3_revert_0 rfl (lv_at hl 0 rfl) ?_
  refine lv_iload_n hx hb dX3_revert_1 rfl (lv_at hl 1 rfl) ?_
  refine k_callX (va_runV (As := [.int (nI b)]) (rest := []) ⟨hx, hb, hml, hown, hts⟩ (c_X3_branchAt_y l D g b0 H A σ dw hC b hb4) (cwV 1 hts gX3_revert_X3_branchAt rfl rfl rfl (by decide +kernel) ⟨Nat.le_of_ble_eq_true rfl, Nat.le_of_ble_eq_true rfl⟩) ⟨kPc_blind, k_recv hK hC.o rfl, fun U hU hW => kPc_at hK hU hW⟩ rfl rfl hl.1 rfl (lv_room (Nat.le_of_ble_eq_true rfl)) dX3_revert_2 ⟨Nat.le_of_ble_eq_true rfl, Nat.le_of_ble_eq_true rfl⟩) ?_
  refine lv_astore_n (lv' := [(3, .ref (A (2000 + b))), (0, .ref (A 0)), (1, .int (nI b)), (2, .int (ni))]) hx hb dX3_revert_5 rfl hl (by decide) rfl (fun ls hl => ?_)
  refine lv_aload_n hx hb dX3_revert_6 rfl (lv_at hl 1 rfl) ?_
  refine lv_iload_n hx hb dX3_revert_7 rfl (lv_at hl 3 rfl) ?_
  refine k_callX (va_runV (As := [.int (ni)]) (rest := []) ⟨hx, hb, hml, hown, hts⟩ (c_X3_versionAt_n l D g b0 H A σ dw hC ni hM) (cwV 1 hts gX3_revert_X3_versionAt rfl rfl rfl (by decide +kernel) ⟨Nat.le_of_ble_eq_true rfl, Nat.le_of_ble_eq_true rfl⟩) ⟨kPc_blind, k_recv hK hC.o rfl, fun U hU hW => kPc_at hK hU hW⟩ rfl rfl hl.1 rfl (lv_room (Nat.le_of_ble_eq_true rfl)) dX3_revert_8 ⟨Nat.le_of_ble_eq_true rfl, Nat.le_of_ble_eq_true rfl⟩) ?_
  refine lv_astoreN (lv' := [(4, .null), (3, .ref (A (2000 + b))), (0, .ref (A 0)), (1, .int (nI b)), (2, .int (ni))]) hx hb dX3_revert_11 hl (by decide) rfl (fun ls hl => ?_)
  refine lv_aload_n hx hb dX3_revert_13 rfl (lv_at hl 1 rfl) ?_
  refine lv_ifnull hx hb dX3_revert_14 ?_
  refine lv_aloadN hx hb dX3_revert_17 (lv_at hl 0 rfl) ?_
  refine lv_ifnonnullN hx hb dX3_revert_19 ?_
  refine lv_iconst (v := (-1)) hx hb dX3_revert_22 (by decide +kernel) ?_
  exact r_iI hx hb hr LB.nil (Nat.le_of_ble_eq_true rfl) (Nat.le_of_ble_eq_true rfl) ⟨A, σ, dw, hC, CFr.rf, Or.inl ⟨Or.inr hM, rfl, rfl⟩⟩ dX3_revert_23 hlocks
set_option maxHeartbeats 4000000 in
set_option maxRecDepth 100000 in
/-- revert_y1 -/
theorem c_X3_revert_y1 (l : Launch) (D : va_G) (g : Nat → ClassId) (b0 : Nat) (H : Heap) (A : Nat → Nat) (σ : SG) (dw : Nat → Int64) (hC : CR D g b0 A σ dw H) (hbH : b0 ≤ H.size) (b : Nat) (hb4 : b < sB σ) (n : Nat) (hn : n < sV σ) (hse : sS σ n = none) : Met l yX3_revert wsX3_revert ({ frames := 6, cells := 4, slots := 470, locals := 157 } : Room) (kPc D g [.ref (A 0), .int (nI b), .int (nI n)] H) (kI (PubQ D g b0 H A σ (SpRevert σ (nI b) (nI n)))) 4 470 (kF b0) := by
  refine Met.ofW (cc := cX3_revert) (maxL := 5) (ret := (some .int)) (by decide) rfl ?_
  intro p e s m args below meth c s₁ B hml hv
  obtain ⟨rfl, hH, hK⟩ := hv
  have hx := B.exec
  have hb := B.bytes
  have hr := B.returns
  have hts := atoms_spec (ws := wsX3_revert) B.pre
  have hown : s.vm.findClass RX3 = some m.cls := findClass_of_methodNamed B.named
  have hlocks := B.notSynchronized
  rw [hH]
  have hl := lv_entry ([.ref (A 0), .int (nI b), .int (nI n)]) (n := 5) (Nat.le_of_ble_eq_true rfl)
  rw [lg_entry_eq]
  generalize (lg_sl ([.ref (A 0), .int (nI b), .int (nI n)]) ++ List.replicate (5 - (lg_sl ([.ref (A 0), .int (nI b), .int (nI n)])).length) Slot.unset).toArray = ls at hl ⊢
  have hl : lv_has ls 5 [(0, .ref (A 0)), (1, .int (nI b)), (2, .int (nI n))] := hl
  have hVB := hC.wf
  have hV4 : sV σ ≤ 400 := hVB.2.1
  have hB4 : sB σ ≤ 40 := hVB.2.2.2.1
  have hhd := hVB.2.2.2.2.1 b hb4
  obtain ⟨hbf, hbw, hbl1, hbl2, hbr⟩ := hC.bef hn
  have htl1 : cLive σ (17 + 4 * n) := clV n hn (by omega) (by omega)
  have htl2 : cLive σ (17 + 4 * n + 1) := clV n hn (by omega) (by omega)
  have hts1 : HA D H (A (17 + 4 * n)) (eO 1 [.ref (A (17 + 4 * n + 1))]) := by have := hC.ts hn; rw [show 18 + 4 * n = 17 + 4 * n + 1 by omega] at this; exact this
  have htw1 : HA D H (A (17 + 4 * n + 1)) (eL (g 2) 64 (sW σ n)) := by have := hC.tw hn; rw [show 18 + 4 * n = 17 + 4 * n + 1 by omega] at this; exact this
  refine lv_aload_n hx hb dX3_revert_0 rfl (lv_at hl 0 rfl) ?_
  refine lv_iload_n hx hb dX3_revert_1 rfl (lv_at hl 1 rfl) ?_
  refine k_callX (va_runV (As := [.int (nI b)]) (rest := []) ⟨hx, hb, hml, hown, hts⟩ (c_X3_branchAt_y l D g b0 H A σ dw hC b hb4) (cwV 1 hts gX3_revert_X3_branchAt rfl rfl rfl (by decide +kernel) ⟨Nat.le_of_ble_eq_true rfl, Nat.le_of_ble_eq_true rfl⟩) ⟨kPc_blind, k_recv hK hC.o rfl, fun U hU hW => kPc_at hK hU hW⟩ rfl rfl hl.1 rfl (lv_room (Nat.le_of_ble_eq_true rfl)) dX3_revert_2 ⟨Nat.le_of_ble_eq_true rfl, Nat.le_of_ble_eq_true rfl⟩) ?_
  refine lv_astore_n (lv' := [(3, .ref (A (2000 + b))), (0, .ref (A 0)), (1, .int (nI b)), (2, .int (nI n))]) hx hb dX3_revert_5 rfl hl (by decide) rfl (fun ls hl => ?_)
  refine lv_aload_n hx hb dX3_revert_6 rfl (lv_at hl 1 rfl) ?_
  refine lv_iload_n hx hb dX3_revert_7 rfl (lv_at hl 3 rfl) ?_
  refine k_callX (va_runV (As := [.int (nI n)]) (rest := []) ⟨hx, hb, hml, hown, hts⟩ (c_X3_versionAt_y l D g b0 H A σ dw hC n hn) (cwV 1 hts gX3_revert_X3_versionAt rfl rfl rfl (by decide +kernel) ⟨Nat.le_of_ble_eq_true rfl, Nat.le_of_ble_eq_true rfl⟩) ⟨kPc_blind, k_recv hK hC.o rfl, fun U hU hW => kPc_at hK hU hW⟩ rfl rfl hl.1 rfl (lv_room (Nat.le_of_ble_eq_true rfl)) dX3_revert_8 ⟨Nat.le_of_ble_eq_true rfl, Nat.le_of_ble_eq_true rfl⟩) ?_
  refine lv_astore (lv' := [(4, .ref (A (16 + 4 * n))), (3, .ref (A (2000 + b))), (0, .ref (A 0)), (1, .int (nI b)), (2, .int (nI n))]) hx hb dX3_revert_11 hl (by decide) rfl (fun ls hl => ?_)
  refine lv_aload_n hx hb dX3_revert_13 rfl (lv_at hl 1 rfl) ?_
  refine lv_ifnull hx hb dX3_revert_14 ?_
  refine lv_aload hx hb dX3_revert_17 (lv_at hl 0 rfl) ?_
  refine lv_ifnonnull (tgt := 24) hx hb dX3_revert_19 (by decide) ?_
  refine lv_aload_n hx hb dX3_revert_24 rfl (lv_at hl 1 rfl) ?_
  refine k_getN (ci := 0) (C := RX0) (T := TX0) (N := 1) (v := .ref (A (16 + 4 * (sH σ b)))) hx hb hts (by decide +kernel) hown hK (hC.ba hb4) rfl 0 (by decide) rfl (List.mem_of_getElem? (i := 4) rfl) rfl dX3_revert_25 ?_
  refine lv_iload_n hx hb dX3_revert_28 rfl (lv_at hl 4 rfl) ?_
  refine k_callX (va_runVN (As := [.int (nI n)]) (rest := []) ⟨hx, hb, hml, hown, hts⟩ (c_X2_hasAncestor l D g H _ _ _ _ _ _ (sA σ (sH σ b)) (hC.ver hhd) (hC.an hhd) n (by omega)) ⟨va_cnB 1 hts gX3_revert_X2_hasAncestor_n93 rfl rfl rfl (hK.2.1 (RX3, 93, yX2_hasAncestor) (List.mem_of_getElem? (i := 11) rfl)) (hts (.initialized RX2) (by decide +kernel)) (by decide +kernel) ⟨Nat.le_of_ble_eq_true rfl, Nat.le_of_ble_eq_true rfl⟩, hts (.instanceMethod yX2_hasAncestor) (by decide +kernel), hts (.selects RX2 yX2_hasAncestor yX2_hasAncestor) (by decide +kernel)⟩ ⟨kPc_blind, k_recv hK (hC.ver hhd) rfl, fun U hU hW => kPc_at hK hU hW⟩ rfl rfl hl.1 rfl (lv_room (Nat.le_of_ble_eq_true rfl)) dX3_revert_29 ⟨Nat.le_of_ble_eq_true rfl, Nat.le_of_ble_eq_true rfl⟩) ?_
  refine z_if_eq (tgt := 43) hx hb dX3_revert_32 (by decide) (fun c_771 => ?_) (fun c_771 => ?_)
  · skip
    refine lv_bipush (v := (-3)) hx hb dX3_revert_43 (by decide +kernel) ?_
    exact r_iI hx hb hr LB.nil (Nat.le_of_ble_eq_true rfl) (Nat.le_of_ble_eq_true rfl) ⟨A, σ, dw, hC, CFr.rf, Or.inr ⟨b, n, hb4, hn, rfl, rfl, Or.inl ⟨Or.inl c_771, by decide +kernel, rfl⟩⟩⟩ dX3_revert_45 hlocks
  · skip
    refine lv_aload hx hb dX3_revert_35 (lv_at hl 0 rfl) ?_
    refine k_getN (ci := 2) (C := RX2) (T := TX2) (N := 5) (v := .null) hx hb hts (by decide +kernel) hown hK (hC.verS0 hn hse) rfl 2 (by decide) rfl (List.mem_of_getElem? (i := 2) rfl) rfl dX3_revert_37 ?_
    refine lv_ifnullN (tgt := 46) hx hb dX3_revert_40 (by decide) ?_
    refine lv_aload_n hx hb dX3_revert_46 rfl (lv_at hl 2 rfl) ?_
    refine lv_aload_n hx hb dX3_revert_47 rfl (lv_at hl 1 rfl) ?_
    refine lv_aload hx hb dX3_revert_48 (lv_at hl 0 rfl) ?_
    refine k_getN (ci := 2) (C := RX2) (T := TX2) (N := 5) (v := .ref (A (17 + 4 * n))) hx hb hts (by decide +kernel) hown hK (hC.verS0 hn hse) rfl 3 (by decide) rfl (List.mem_of_getElem? (i := 3) rfl) rfl dX3_revert_50 ?_
    refine lv_aload_n hx hb dX3_revert_53 rfl (lv_at hl 2 rfl) ?_
    refine lv_aload hx hb dX3_revert_54 (lv_at hl 0 rfl) ?_
    refine k_callX (va_runV (As := [.ref (A (16 + 4 * n))]) (rest := [.ref (A (17 + 4 * n)), .ref (A (2000 + b)), .ref (A 0)]) ⟨hx, hb, hml, hown, hts⟩ (c_X3_setBefore l D g b0 H A σ dw hC n hn) (cwV 1 hts gX3_revert_X3_setBefore rfl rfl rfl (by decide +kernel) ⟨Nat.le_of_ble_eq_true rfl, Nat.le_of_ble_eq_true rfl⟩) ⟨kPc_blind, k_recv hK hC.o rfl, fun U hU hW => kPc_at hK hU hW⟩ rfl rfl hl.1 rfl (lv_room (Nat.le_of_ble_eq_true rfl)) dX3_revert_56 ⟨Nat.le_of_ble_eq_true rfl, Nat.le_of_ble_eq_true rfl⟩) ?_
    refine k_callI (va_runV (As := [.ref (A (2000 + b)), .ref (A (17 + 4 * n)), .ref (A (befC σ n))]) (rest := []) ⟨hx, hb, hml, hown, hts⟩ (c_X3_lay l D g b0 H A σ dw hC hbH b hb4 (17 + 4 * n) (befC σ n) (sW σ n) (befW σ n) htl1 htl2 (by omega) (by omega) hts1 htw1 hbl1 hbl2 (by omega) (by omega) hbf hbw) (cwV 3 hts gX3_revert_X3_lay rfl rfl rfl (by decide +kernel) ⟨Nat.le_of_ble_eq_true rfl, Nat.le_of_ble_eq_true rfl⟩) ⟨kPc_blind, k_recv hK hC.o rfl, fun U hU hW => kPc_at hK hU hW⟩ rfl rfl hl.1 rfl (lv_room (Nat.le_of_ble_eq_true rfl)) dX3_revert_59 ⟨Nat.le_of_ble_eq_true rfl, Nat.le_of_ble_eq_true rfl⟩) LB.nil (fun ra Hz locsz hLBz hqz => ?_)
    refine W.widen (k := 4) (n := 470) (Nat.le_of_ble_eq_true rfl) (Nat.le_of_ble_eq_true rfl) ?_
    obtain ⟨Az, σz, dwz, hCz, hFz, hsz⟩ := hqz
    exact r_iI hx hb hr hLBz (Nat.le_of_ble_eq_true rfl) (Nat.le_of_ble_eq_true rfl) ⟨Az, σz, dwz, hCz, hFz, Or.inr ⟨b, n, hb4, hn, rfl, rfl, Or.inr ⟨c_771, hse, hsz⟩⟩⟩ dX3_revert_62 hlocks
set_option maxHeartbeats 4000000 in
set_option maxRecDepth 100000 in
/-- revert_y2 -/
theorem c_X3_revert_y2 (l : Launch) (D : va_G) (g : Nat → ClassId) (b0 : Nat) (H : Heap) (A : Nat → Nat) (σ : SG) (dw : Nat → Int64) (hC : CR D g b0 A σ dw H) (hbH : b0 ≤ H.size) (b : Nat) (hb4 : b < sB σ) (n : Nat) (hn : n < sV σ) (p2 : Nat) (hse : sS σ n = some p2) : Met l yX3_revert wsX3_revert ({ frames := 6, cells := 4, slots := 470, locals := 157 } : Room) (kPc D g [.ref (A 0), .int (nI b), .int (nI n)] H) (kI (PubQ D g b0 H A σ (SpRevert σ (nI b) (nI n)))) 4 470 (kF b0) := by
  refine Met.ofW (cc := cX3_revert) (maxL := 5) (ret := (some .int)) (by decide) rfl ?_
  intro p e s m args below meth c s₁ B hml hv
  obtain ⟨rfl, hH, hK⟩ := hv
  have hx := B.exec
  have hb := B.bytes
  have hr := B.returns
  have hts := atoms_spec (ws := wsX3_revert) B.pre
  have hown : s.vm.findClass RX3 = some m.cls := findClass_of_methodNamed B.named
  have hlocks := B.notSynchronized
  rw [hH]
  have hl := lv_entry ([.ref (A 0), .int (nI b), .int (nI n)]) (n := 5) (Nat.le_of_ble_eq_true rfl)
  rw [lg_entry_eq]
  generalize (lg_sl ([.ref (A 0), .int (nI b), .int (nI n)]) ++ List.replicate (5 - (lg_sl ([.ref (A 0), .int (nI b), .int (nI n)])).length) Slot.unset).toArray = ls at hl ⊢
  have hl : lv_has ls 5 [(0, .ref (A 0)), (1, .int (nI b)), (2, .int (nI n))] := hl
  have hVB := hC.wf
  have hV4 : sV σ ≤ 400 := hVB.2.1
  have hB4 : sB σ ≤ 40 := hVB.2.2.2.1
  have hhd := hVB.2.2.2.2.1 b hb4
  obtain ⟨hbf, hbw, hbl1, hbl2, hbr⟩ := hC.bef hn
  have htl1 : cLive σ (17 + 4 * n) := clV n hn (by omega) (by omega)
  have htl2 : cLive σ (17 + 4 * n + 1) := clV n hn (by omega) (by omega)
  have hts1 : HA D H (A (17 + 4 * n)) (eO 1 [.ref (A (17 + 4 * n + 1))]) := by have := hC.ts hn; rw [show 18 + 4 * n = 17 + 4 * n + 1 by omega] at this; exact this
  have htw1 : HA D H (A (17 + 4 * n + 1)) (eL (g 2) 64 (sW σ n)) := by have := hC.tw hn; rw [show 18 + 4 * n = 17 + 4 * n + 1 by omega] at this; exact this
  refine lv_aload_n hx hb dX3_revert_0 rfl (lv_at hl 0 rfl) ?_
  refine lv_iload_n hx hb dX3_revert_1 rfl (lv_at hl 1 rfl) ?_
  refine k_callX (va_runV (As := [.int (nI b)]) (rest := []) ⟨hx, hb, hml, hown, hts⟩ (c_X3_branchAt_y l D g b0 H A σ dw hC b hb4) (cwV 1 hts gX3_revert_X3_branchAt rfl rfl rfl (by decide +kernel) ⟨Nat.le_of_ble_eq_true rfl, Nat.le_of_ble_eq_true rfl⟩) ⟨kPc_blind, k_recv hK hC.o rfl, fun U hU hW => kPc_at hK hU hW⟩ rfl rfl hl.1 rfl (lv_room (Nat.le_of_ble_eq_true rfl)) dX3_revert_2 ⟨Nat.le_of_ble_eq_true rfl, Nat.le_of_ble_eq_true rfl⟩) ?_
  refine lv_astore_n (lv' := [(3, .ref (A (2000 + b))), (0, .ref (A 0)), (1, .int (nI b)), (2, .int (nI n))]) hx hb dX3_revert_5 rfl hl (by decide) rfl (fun ls hl => ?_)
  refine lv_aload_n hx hb dX3_revert_6 rfl (lv_at hl 1 rfl) ?_
  refine lv_iload_n hx hb dX3_revert_7 rfl (lv_at hl 3 rfl) ?_
  refine k_callX (va_runV (As := [.int (nI n)]) (rest := []) ⟨hx, hb, hml, hown, hts⟩ (c_X3_versionAt_y l D g b0 H A σ dw hC n hn) (cwV 1 hts gX3_revert_X3_versionAt rfl rfl rfl (by decide +kernel) ⟨Nat.le_of_ble_eq_true rfl, Nat.le_of_ble_eq_true rfl⟩) ⟨kPc_blind, k_recv hK hC.o rfl, fun U hU hW => kPc_at hK hU hW⟩ rfl rfl hl.1 rfl (lv_room (Nat.le_of_ble_eq_true rfl)) dX3_revert_8 ⟨Nat.le_of_ble_eq_true rfl, Nat.le_of_ble_eq_true rfl⟩) ?_
  refine lv_astore (lv' := [(4, .ref (A (16 + 4 * n))), (3, .ref (A (2000 + b))), (0, .ref (A 0)), (1, .int (nI b)), (2, .int (nI n))]) hx hb dX3_revert_11 hl (by decide) rfl (fun ls hl => ?_)
  refine lv_aload_n hx hb dX3_revert_13 rfl (lv_at hl 1 rfl) ?_
  refine lv_ifnull hx hb dX3_revert_14 ?_
  refine lv_aload hx hb dX3_revert_17 (lv_at hl 0 rfl) ?_
  refine lv_ifnonnull (tgt := 24) hx hb dX3_revert_19 (by decide) ?_
  refine lv_aload_n hx hb dX3_revert_24 rfl (lv_at hl 1 rfl) ?_
  refine k_getN (ci := 0) (C := RX0) (T := TX0) (N := 1) (v := .ref (A (16 + 4 * (sH σ b)))) hx hb hts (by decide +kernel) hown hK (hC.ba hb4) rfl 0 (by decide) rfl (List.mem_of_getElem? (i := 4) rfl) rfl dX3_revert_25 ?_
  refine lv_iload_n hx hb dX3_revert_28 rfl (lv_at hl 4 rfl) ?_
  refine k_callX (va_runVN (As := [.int (nI n)]) (rest := []) ⟨hx, hb, hml, hown, hts⟩ (c_X2_hasAncestor l D g H _ _ _ _ _ _ (sA σ (sH σ b)) (hC.ver hhd) (hC.an hhd) n (by omega)) ⟨va_cnB 1 hts gX3_revert_X2_hasAncestor_n93 rfl rfl rfl (hK.2.1 (RX3, 93, yX2_hasAncestor) (List.mem_of_getElem? (i := 11) rfl)) (hts (.initialized RX2) (by decide +kernel)) (by decide +kernel) ⟨Nat.le_of_ble_eq_true rfl, Nat.le_of_ble_eq_true rfl⟩, hts (.instanceMethod yX2_hasAncestor) (by decide +kernel), hts (.selects RX2 yX2_hasAncestor yX2_hasAncestor) (by decide +kernel)⟩ ⟨kPc_blind, k_recv hK (hC.ver hhd) rfl, fun U hU hW => kPc_at hK hU hW⟩ rfl rfl hl.1 rfl (lv_room (Nat.le_of_ble_eq_true rfl)) dX3_revert_29 ⟨Nat.le_of_ble_eq_true rfl, Nat.le_of_ble_eq_true rfl⟩) ?_
  refine z_if_eq (tgt := 43) hx hb dX3_revert_32 (by decide) (fun c_772 => ?_) (fun c_772 => ?_)
  · skip
    refine lv_bipush (v := (-3)) hx hb dX3_revert_43 (by decide +kernel) ?_
    exact r_iI hx hb hr LB.nil (Nat.le_of_ble_eq_true rfl) (Nat.le_of_ble_eq_true rfl) ⟨A, σ, dw, hC, CFr.rf, Or.inr ⟨b, n, hb4, hn, rfl, rfl, Or.inl ⟨Or.inl c_772, by decide +kernel, rfl⟩⟩⟩ dX3_revert_45 hlocks
  · skip
    refine lv_aload hx hb dX3_revert_35 (lv_at hl 0 rfl) ?_
    refine k_getN (ci := 2) (C := RX2) (T := TX2) (N := 5) (v := .ref (A (16 + 4 * p2))) hx hb hts (by decide +kernel) hown hK (hC.verS1 hn hse) rfl 2 (by decide) rfl (List.mem_of_getElem? (i := 2) rfl) rfl dX3_revert_37 ?_
    refine lv_ifnull hx hb dX3_revert_40 ?_
    refine lv_bipush (v := (-3)) hx hb dX3_revert_43 (by decide +kernel) ?_
    exact r_iI hx hb hr LB.nil (Nat.le_of_ble_eq_true rfl) (Nat.le_of_ble_eq_true rfl) ⟨A, σ, dw, hC, CFr.rf, Or.inr ⟨b, n, hb4, hn, rfl, rfl, Or.inl ⟨Or.inr (fun z => by rw [hse] at z; cases z), by decide +kernel, rfl⟩⟩⟩ dX3_revert_45 hlocks
theorem c_X3_revert (l : Launch) (D : va_G) (g : Nat → ClassId) (b0 : Nat) (H : Heap) (A : Nat → Nat) (σ : SG) (dw : Nat → Int64) (hC : CR D g b0 A σ dw H) (hbH : b0 ≤ H.size) (bi ni : Int32) : Met l yX3_revert wsX3_revert ({ frames := 6, cells := 4, slots := 470, locals := 157 } : Room) (kPc D g [.ref (A 0), .int bi, .int ni] H) (kI (PubQ D g b0 H A σ (SpRevert σ bi ni))) 4 470 (kF b0) := by
  rcases br_dec σ bi with h | ⟨b, hb4, rfl⟩
  · exact c_X3_revert_n1 l D g b0 H A σ dw hC hbH bi ni h
  · rcases ve_dec σ ni with h | ⟨n, hn, rfl⟩
    · exact c_X3_revert_n2 l D g b0 H A σ dw hC hbH b hb4 ni h
    · cases hse : sS σ n with
      | none => exact c_X3_revert_y1 l D g b0 H A σ dw hC hbH b hb4 n hn hse
      | some p2 => exact c_X3_revert_y2 l D g b0 H A σ dw hC hbH b hb4 n hn p2 hse
set_option maxHeartbeats 4000000 in
set_option maxRecDepth 100000 in
/-- branch_n -/
theorem c_X3_branch_n (l : Launch) (D : va_G) (g : Nat → ClassId) (b0 : Nat) (H : Heap) (A : Nat → Nat) (σ : SG) (dw : Nat → Int64) (hC : CR D g b0 A σ dw H) (hbH : b0 ≤ H.size) (i : Int32) (hN : BrN σ i) (hm : ¬ i = -1) : Met l yX3_branch wsX3_branch ({ frames := 4, cells := 5, slots := 471, locals := 109 } : Room) (kPc D g [.ref (A 0), .int (i)] H) (kI (PubQ D g b0 H A σ (SpBranch σ i))) 5 471 (kF b0) := by
  refine Met.ofW (cc := cX3_branch) (maxL := 3) (ret := (some .int)) (by decide) rfl ?_
  intro p e s m args below meth c s₁ B hml hv
  obtain ⟨rfl, hH, hK⟩ := hv
  have hx := B.exec
  have hb := B.bytes
  have hr := B.returns
  have hts := atoms_spec (ws := wsX3_branch) B.pre
  have hown : s.vm.findClass RX3 = some m.cls := findClass_of_methodNamed B.named
  have hlocks := B.notSynchronized
  rw [hH]
  have hl := lv_entry ([.ref (A 0), .int (i)]) (n := 3) (Nat.le_of_ble_eq_true rfl)
  rw [lg_entry_eq]
  generalize (lg_sl ([.ref (A 0), .int (i)]) ++ List.replicate (3 - (lg_sl ([.ref (A 0), .int (i)])).length) Slot.unset).toArray = ls at hl ⊢
  have hl : lv_has ls 3 [(0, .ref (A 0)), (1, .int (i))] := hl
  have hVB := hC.wf
  have hV4 : sV σ ≤ 400 := hVB.2.1
  have hB4 : sB σ ≤ 40 := hVB.2.2.2.1
  refine lv_aload_n hx hb dX3_branch_0 rfl (lv_at hl 0 rfl) ?_
  refine lv_iload_n hx hb dX3_branch_1 rfl (lv_at hl 1 rfl) ?_
  refine k_callX (va_runV (As := [.int (i)]) (rest := []) ⟨hx, hb, hml, hown, hts⟩ (c_X3_branchAt_n l D g b0 H A σ dw hC i hN) (cwV 1 hts gX3_branch_X3_branchAt rfl rfl rfl (by decide +kernel) ⟨Nat.le_of_ble_eq_true rfl, Nat.le_of_ble_eq_true rfl⟩) ⟨kPc_blind, k_recv hK hC.o rfl, fun U hU hW => kPc_at hK hU hW⟩ rfl rfl hl.1 rfl (lv_room (Nat.le_of_ble_eq_true rfl)) dX3_branch_2 ⟨Nat.le_of_ble_eq_true rfl, Nat.le_of_ble_eq_true rfl⟩) ?_
  refine lv_astore_nN (lv' := [(2, .null), (0, .ref (A 0)), (1, .int (i))]) hx hb dX3_branch_5 rfl hl (by decide) rfl (fun ls hl => ?_)
  refine lv_aload_nN hx hb dX3_branch_6 rfl (lv_at hl 0 rfl) ?_
  refine lv_ifnonnullN hx hb dX3_branch_7 ?_
  refine lv_iload_n hx hb dX3_branch_10 rfl (lv_at hl 2 rfl) ?_
  refine lv_iconst (v := (-1)) hx hb dX3_branch_11 (by decide +kernel) ?_
  refine lv_icmp_eq (tgt := 17) hx hb dX3_branch_12 (by decide) (fun c_773 => ?_) (fun c_773 => ?_)
  · skip
    exact absurd c_773 hm
  · skip
    refine lv_iconst (v := (-1)) hx hb dX3_branch_15 (by decide +kernel) ?_
    exact r_iI hx hb hr LB.nil (Nat.le_of_ble_eq_true rfl) (Nat.le_of_ble_eq_true rfl) ⟨A, σ, dw, hC, CFr.rf, Or.inl ⟨hN, hm, rfl, rfl⟩⟩ dX3_branch_16 hlocks
set_option maxHeartbeats 4000000 in
set_option maxRecDepth 100000 in
/-- branch_y -/
theorem c_X3_branch_y (l : Launch) (D : va_G) (g : Nat → ClassId) (b0 : Nat) (H : Heap) (A : Nat → Nat) (σ : SG) (dw : Nat → Int64) (hC : CR D g b0 A σ dw H) (hbH : b0 ≤ H.size) (b : Nat) (hb4 : b < sB σ) : Met l yX3_branch wsX3_branch ({ frames := 4, cells := 5, slots := 471, locals := 109 } : Room) (kPc D g [.ref (A 0), .int (nI b)] H) (kI (PubQ D g b0 H A σ (SpBranch σ (nI b)))) 5 471 (kF b0) := by
  refine Met.ofW (cc := cX3_branch) (maxL := 3) (ret := (some .int)) (by decide) rfl ?_
  intro p e s m args below meth c s₁ B hml hv
  obtain ⟨rfl, hH, hK⟩ := hv
  have hx := B.exec
  have hb := B.bytes
  have hr := B.returns
  have hts := atoms_spec (ws := wsX3_branch) B.pre
  have hown : s.vm.findClass RX3 = some m.cls := findClass_of_methodNamed B.named
  have hlocks := B.notSynchronized
  rw [hH]
  have hl := lv_entry ([.ref (A 0), .int (nI b)]) (n := 3) (Nat.le_of_ble_eq_true rfl)
  rw [lg_entry_eq]
  generalize (lg_sl ([.ref (A 0), .int (nI b)]) ++ List.replicate (3 - (lg_sl ([.ref (A 0), .int (nI b)])).length) Slot.unset).toArray = ls at hl ⊢
  have hl : lv_has ls 3 [(0, .ref (A 0)), (1, .int (nI b))] := hl
  have hVB := hC.wf
  have hV4 : sV σ ≤ 400 := hVB.2.1
  have hB4 : sB σ ≤ 40 := hVB.2.2.2.1
  have hhd := hVB.2.2.2.2.1 b hb4
  refine lv_aload_n hx hb dX3_branch_0 rfl (lv_at hl 0 rfl) ?_
  refine lv_iload_n hx hb dX3_branch_1 rfl (lv_at hl 1 rfl) ?_
  refine k_callX (va_runV (As := [.int (nI b)]) (rest := []) ⟨hx, hb, hml, hown, hts⟩ (c_X3_branchAt_y l D g b0 H A σ dw hC b hb4) (cwV 1 hts gX3_branch_X3_branchAt rfl rfl rfl (by decide +kernel) ⟨Nat.le_of_ble_eq_true rfl, Nat.le_of_ble_eq_true rfl⟩) ⟨kPc_blind, k_recv hK hC.o rfl, fun U hU hW => kPc_at hK hU hW⟩ rfl rfl hl.1 rfl (lv_room (Nat.le_of_ble_eq_true rfl)) dX3_branch_2 ⟨Nat.le_of_ble_eq_true rfl, Nat.le_of_ble_eq_true rfl⟩) ?_
  refine lv_astore_n (lv' := [(2, .ref (A (2000 + b))), (0, .ref (A 0)), (1, .int (nI b))]) hx hb dX3_branch_5 rfl hl (by decide) rfl (fun ls hl => ?_)
  refine lv_aload_n hx hb dX3_branch_6 rfl (lv_at hl 0 rfl) ?_
  refine lv_ifnonnull (tgt := 17) hx hb dX3_branch_7 (by decide) ?_
  refine lv_aload_n hx hb dX3_branch_17 rfl (lv_at hl 1 rfl) ?_
  refine k_get (ci := 3) (C := RX3) (T := TX3) (N := 7) (v := .int (nI (sB σ))) hx hb hts (by decide +kernel) hown hK hC.o rfl 3 (by decide) rfl (hts (.fieldLink RX3 46 RX3 "branchCount" "I") (by decide +kernel)) rfl dX3_branch_18 ?_
  refine lv_bipush (v := nI 40) hx hb dX3_branch_21 (by decide +kernel) ?_
  refine n_icmp_lt (tgt := 29) hx hb dX3_branch_23 (by decide) (by omega) (by omega) (fun c_774 => ?_) (fun c_774 => ?_)
  · skip
    refine lv_aload_n hx hb dX3_branch_29 rfl (lv_at hl 1 rfl) ?_
    refine lv_aload_n hx hb dX3_branch_30 rfl (lv_at hl 0 rfl) ?_
    refine lv_ifnonnull (tgt := 47) hx hb dX3_branch_31 (by decide) ?_
    refine lv_aload_n hx hb dX3_branch_47 rfl (lv_at hl 0 rfl) ?_
    refine k_getN (ci := 0) (C := RX0) (T := TX0) (N := 1) (v := .ref (A (16 + 4 * (sH σ b)))) hx hb hts (by decide +kernel) hown hK (hC.ba hb4) rfl 0 (by decide) rfl (List.mem_of_getElem? (i := 4) rfl) rfl dX3_branch_48 ?_
    refine k_callI (va_runV (As := [.ref (A (16 + 4 * (sH σ b)))]) (rest := []) ⟨hx, hb, hml, hown, hts⟩ (c_X3_addBranch l D g b0 H A σ dw hC hbH c_774 (sH σ b) hhd) (cwV 1 hts gX3_branch_X3_addBranch rfl rfl rfl (by decide +kernel) ⟨Nat.le_of_ble_eq_true rfl, Nat.le_of_ble_eq_true rfl⟩) ⟨kPc_blind, k_recv hK hC.o rfl, fun U hU hW => kPc_at hK hU hW⟩ rfl rfl hl.1 rfl (lv_room (Nat.le_of_ble_eq_true rfl)) dX3_branch_51 ⟨Nat.le_of_ble_eq_true rfl, Nat.le_of_ble_eq_true rfl⟩) LB.nil (fun ra Hz locsz hLBz hqz => ?_)
    refine W.widen (k := 1) (n := 1) (Nat.le_of_ble_eq_true rfl) (Nat.le_of_ble_eq_true rfl) ?_
    obtain ⟨hra, Az, hCz, hFz⟩ := hqz
    exact r_iI hx hb hr hLBz (Nat.le_of_ble_eq_true rfl) (Nat.le_of_ble_eq_true rfl) ⟨Az, _, dw, hCz, hFz, Or.inr (Or.inr (Or.inl ⟨b, hb4, rfl, c_774, hra, rfl⟩))⟩ dX3_branch_54 hlocks
  · skip
    refine lv_bipush (v := (-4)) hx hb dX3_branch_26 (by decide +kernel) ?_
    exact r_iI hx hb hr LB.nil (Nat.le_of_ble_eq_true rfl) (Nat.le_of_ble_eq_true rfl) ⟨A, σ, dw, hC, CFr.rf, Or.inr (Or.inl ⟨by omega, Or.inr ⟨b, hb4, rfl⟩, by decide +kernel, rfl⟩)⟩ dX3_branch_28 hlocks
set_option maxHeartbeats 4000000 in
set_option maxRecDepth 100000 in
/-- branch_m -/
theorem c_X3_branch_m (l : Launch) (D : va_G) (g : Nat → ClassId) (b0 : Nat) (H : Heap) (A : Nat → Nat) (σ : SG) (dw : Nat → Int64) (hC : CR D g b0 A σ dw H) (hbH : b0 ≤ H.size)  : Met l yX3_branch wsX3_branch ({ frames := 4, cells := 5, slots := 471, locals := 109 } : Room) (kPc D g [.ref (A 0), .int ((-1))] H) (kI (PubQ D g b0 H A σ (SpBranch σ (-1)))) 5 471 (kF b0) := by
  refine Met.ofW (cc := cX3_branch) (maxL := 3) (ret := (some .int)) (by decide) rfl ?_
  intro p e s m args below meth c s₁ B hml hv
  obtain ⟨rfl, hH, hK⟩ := hv
  have hx := B.exec
  have hb := B.bytes
  have hr := B.returns
  have hts := atoms_spec (ws := wsX3_branch) B.pre
  have hown : s.vm.findClass RX3 = some m.cls := findClass_of_methodNamed B.named
  have hlocks := B.notSynchronized
  rw [hH]
  have hl := lv_entry ([.ref (A 0), .int ((-1))]) (n := 3) (Nat.le_of_ble_eq_true rfl)
  rw [lg_entry_eq]
  generalize (lg_sl ([.ref (A 0), .int ((-1))]) ++ List.replicate (3 - (lg_sl ([.ref (A 0), .int ((-1))])).length) Slot.unset).toArray = ls at hl ⊢
  have hl : lv_has ls 3 [(0, .ref (A 0)), (1, .int ((-1)))] := hl
  have hVB := hC.wf
  have hV4 : sV σ ≤ 400 := hVB.2.1
  have hB4 : sB σ ≤ 40 := hVB.2.2.2.1
  have hN : BrN σ (-1) := fun b hb e => nI_neg (by omega) e.symm
  refine lv_aload_n hx hb dX3_branch_0 rfl (lv_at hl 0 rfl) ?_
  refine lv_iload_n hx hb dX3_branch_1 rfl (lv_at hl 1 rfl) ?_
  refine k_callX (va_runV (As := [.int ((-1))]) (rest := []) ⟨hx, hb, hml, hown, hts⟩ (c_X3_branchAt_n l D g b0 H A σ dw hC (-1) hN) (cwV 1 hts gX3_branch_X3_branchAt rfl rfl rfl (by decide +kernel) ⟨Nat.le_of_ble_eq_true rfl, Nat.le_of_ble_eq_true rfl⟩) ⟨kPc_blind, k_recv hK hC.o rfl, fun U hU hW => kPc_at hK hU hW⟩ rfl rfl hl.1 rfl (lv_room (Nat.le_of_ble_eq_true rfl)) dX3_branch_2 ⟨Nat.le_of_ble_eq_true rfl, Nat.le_of_ble_eq_true rfl⟩) ?_
  refine lv_astore_nN (lv' := [(2, .null), (0, .ref (A 0)), (1, .int ((-1)))]) hx hb dX3_branch_5 rfl hl (by decide) rfl (fun ls hl => ?_)
  refine lv_aload_nN hx hb dX3_branch_6 rfl (lv_at hl 0 rfl) ?_
  refine lv_ifnonnullN hx hb dX3_branch_7 ?_
  refine lv_iload_n hx hb dX3_branch_10 rfl (lv_at hl 2 rfl) ?_
  refine lv_iconst (v := (-1)) hx hb dX3_branch_11 (by decide +kernel) ?_
  refine lv_icmp_eq (tgt := 17) hx hb dX3_branch_12 (by decide) (fun c_775 => ?_) (fun c_775 => ?_)
  · skip
    refine lv_aload_n hx hb dX3_branch_17 rfl (lv_at hl 1 rfl) ?_
    refine k_get (ci := 3) (C := RX3) (T := TX3) (N := 7) (v := .int (nI (sB σ))) hx hb hts (by decide +kernel) hown hK hC.o rfl 3 (by decide) rfl (hts (.fieldLink RX3 46 RX3 "branchCount" "I") (by decide +kernel)) rfl dX3_branch_18 ?_
    refine lv_bipush (v := nI 40) hx hb dX3_branch_21 (by decide +kernel) ?_
    refine n_icmp_lt (tgt := 29) hx hb dX3_branch_23 (by decide) (by omega) (by omega) (fun c_776 => ?_) (fun c_776 => ?_)
    · skip
      refine lv_aload_n hx hb dX3_branch_29 rfl (lv_at hl 1 rfl) ?_
      refine lv_aload_nN hx hb dX3_branch_30 rfl (lv_at hl 0 rfl) ?_
      refine lv_ifnonnullN hx hb dX3_branch_31 ?_
      refine lv_aload_n hx hb dX3_branch_34 rfl (lv_at hl 1 rfl) ?_
      refine lv_null hx hb dX3_branch_35 ?_
      refine lv_null hx hb dX3_branch_36 ?_
      refine lv_aload_n hx hb dX3_branch_37 rfl (lv_at hl 1 rfl) ?_
      refine k_get (ci := 3) (C := RX3) (T := TX3) (N := 7) (v := .ref (A 3)) hx hb hts (by decide +kernel) hown hK hC.o rfl 4 (by decide) rfl (hts (.fieldLink RX3 24 RX3 "nothing" "LVersionMerge$TripleSet;") (by decide +kernel)) rfl dX3_branch_38 ?_
      by_cases hV : sV σ < 400
      · skip
        refine k_callR (va_runV (As := [.null, .null, .ref (A 3)]) (rest := [.ref (A 0)]) ⟨hx, hb, hml, hown, hts⟩ (c_X3_addVersion_00 l D g b0 H A σ dw hC 3 (fun _ => 0) (cl0 (by omega)) (cl0 (by omega)) hC.nt hC.nw hbH hV) (cwV 3 hts gX3_branch_X3_addVersion rfl rfl rfl (by decide +kernel) ⟨Nat.le_of_ble_eq_true rfl, Nat.le_of_ble_eq_true rfl⟩) ⟨kPc_blind, k_recv hK hC.o rfl, fun U hU hW => kPc_at hK hU hW⟩ rfl rfl hl.1 rfl (lv_room (Nat.le_of_ble_eq_true rfl)) dX3_branch_41 ⟨Nat.le_of_ble_eq_true rfl, Nat.le_of_ble_eq_true rfl⟩) LB.nil (fun a H1 locs1 hLB1 hq1 => ?_)
        refine W.widen (k := 4) (n := 470) (Nat.le_of_ble_eq_true rfl) (Nat.le_of_ble_eq_true rfl) ?_
        obtain ⟨q1, q2, q3, w1, an1, hC1, hF1, hw1, han⟩ := hq1
        have hbH1 : b0 ≤ H1.size := Nat.le_trans hbH hF1.1
        have e0 : AV A (sV σ) a q1 q2 q3 0 = A 0 := AVo A (sV σ) a q1 q2 q3 (Or.inl (by omega))
        have ea : AV A (sV σ) a q1 q2 q3 (16 + 4 * sV σ) = a := AV0 ..
        refine lv_goto (tgt := 51) hx hb dX3_branch_44 (by decide) ?_
        have cAdd := c_X3_addBranch l D g b0 H1 (AV A (sV σ) a q1 q2 q3) (gGrow σ none none w1 an1) dw hC1 hbH1 c_776 (sV σ) (Nat.lt_succ_self _)
        rw [e0, ea] at cAdd
        have ho1 := hC1.o
        rw [e0] at ho1
        refine k_callI (va_runV (As := [.ref a]) (rest := []) ⟨hx, hb, hml, hown, hts⟩ (cAdd) (cwV 1 hts gX3_branch_X3_addBranch rfl rfl rfl (by decide +kernel) ⟨Nat.le_of_ble_eq_true rfl, Nat.le_of_ble_eq_true rfl⟩) ⟨kPc_blind, k_recv hK ho1 rfl, fun U hU hW => kPc_at hK hU hW⟩ rfl rfl hl.1 rfl (lv_room (Nat.le_of_ble_eq_true rfl)) dX3_branch_51 ⟨Nat.le_of_ble_eq_true rfl, Nat.le_of_ble_eq_true rfl⟩) hLB1 (fun ra Hz locsz hLBz hqz => ?_)
        refine W.widen (k := 5) (n := 471) (Nat.le_of_ble_eq_true rfl) (Nat.le_of_ble_eq_true rfl) ?_
        obtain ⟨hra, Az, hCz, hFz⟩ := hqz
        exact r_iI hx hb hr hLBz (Nat.le_of_ble_eq_true rfl) (Nat.le_of_ble_eq_true rfl) ⟨Az, _, dw, hCz, (hF1.tr hFz), Or.inr (Or.inr (Or.inr (Or.inr ⟨rfl, c_776, hV, hra, w1, an1, rfl, hw1, han⟩)))⟩ dX3_branch_54 hlocks
      · skip
        refine k_callX (va_runV (As := [.null, .null, .ref (A 3)]) (rest := [.ref (A 0)]) ⟨hx, hb, hml, hown, hts⟩ (c_X3_addVersion_full_00 l D g b0 H A σ dw hC hV 3) (cwV 3 hts gX3_branch_X3_addVersion rfl rfl rfl (by decide +kernel) ⟨Nat.le_of_ble_eq_true rfl, Nat.le_of_ble_eq_true rfl⟩) ⟨kPc_blind, k_recv hK hC.o rfl, fun U hU hW => kPc_at hK hU hW⟩ rfl rfl hl.1 rfl (lv_room (Nat.le_of_ble_eq_true rfl)) dX3_branch_41 ⟨Nat.le_of_ble_eq_true rfl, Nat.le_of_ble_eq_true rfl⟩) ?_
        refine lv_goto (tgt := 51) hx hb dX3_branch_44 (by decide) ?_
        refine k_callX (va_runV (As := [.null]) (rest := []) ⟨hx, hb, hml, hown, hts⟩ (c_X3_addBranch_0 l D g b0 H A σ dw hC) (cwV 1 hts gX3_branch_X3_addBranch rfl rfl rfl (by decide +kernel) ⟨Nat.le_of_ble_eq_true rfl, Nat.le_of_ble_eq_true rfl⟩) ⟨kPc_blind, k_recv hK hC.o rfl, fun U hU hW => kPc_at hK hU hW⟩ rfl rfl hl.1 rfl (lv_room (Nat.le_of_ble_eq_true rfl)) dX3_branch_51 ⟨Nat.le_of_ble_eq_true rfl, Nat.le_of_ble_eq_true rfl⟩) ?_
        exact r_iI hx hb hr LB.nil (Nat.le_of_ble_eq_true rfl) (Nat.le_of_ble_eq_true rfl) ⟨A, σ, dw, hC, CFr.rf, Or.inr (Or.inr (Or.inr (Or.inl ⟨rfl, c_776, by omega, rfl, rfl⟩)))⟩ dX3_branch_54 hlocks
    · skip
      refine lv_bipush (v := (-4)) hx hb dX3_branch_26 (by decide +kernel) ?_
      exact r_iI hx hb hr LB.nil (Nat.le_of_ble_eq_true rfl) (Nat.le_of_ble_eq_true rfl) ⟨A, σ, dw, hC, CFr.rf, Or.inr (Or.inl ⟨by omega, Or.inl rfl, by decide +kernel, rfl⟩)⟩ dX3_branch_28 hlocks
  · skip
    exact absurd rfl c_775
theorem c_X3_branch (l : Launch) (D : va_G) (g : Nat → ClassId) (b0 : Nat) (H : Heap) (A : Nat → Nat) (σ : SG) (dw : Nat → Int64) (hC : CR D g b0 A σ dw H) (hbH : b0 ≤ H.size) (i : Int32) : Met l yX3_branch wsX3_branch ({ frames := 4, cells := 5, slots := 471, locals := 109 } : Room) (kPc D g [.ref (A 0), .int i] H) (kI (PubQ D g b0 H A σ (SpBranch σ i))) 5 471 (kF b0) := by
  rcases br_dec σ i with h | ⟨b, hb4, rfl⟩
  · by_cases hm : i = -1
    · subst hm
      exact c_X3_branch_m l D g b0 H A σ dw hC hbH
    · exact c_X3_branch_n l D g b0 H A σ dw hC hbH i h hm
  · exact c_X3_branch_y l D g b0 H A σ dw hC hbH b hb4

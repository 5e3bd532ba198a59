/-! 21: the reference: merge (laid by wip/gen/mod21.py) -/
set_option maxHeartbeats 4000000 in
set_option maxRecDepth 100000 in
/-- merge_n1 -/
theorem c_X4_merge_n1 (l : Launch) (D : va_G) (g : Nat → ClassId) (b0 : Nat) (H : Heap) (μ : Nat → Nat) (σ : SG) (nC : Nat) (x : Nat → Nat → Int32) (hM : MC D g b0 μ (sV σ) (sB σ) nC x H) (hR : MR σ x) (hMK : MK σ nC x) (ai bi : Int32) (hN : BrN σ ai) : Met l yX4_merge wsX4_merge ({ frames := 2, cells := 0, slots := 0, locals := 46 } : Room) (kPc D g [.ref (μ 0), .int (ai), .int (bi)] H) (kI (MPubQ D g b0 μ H (SpMerge σ ai bi))) 0 0 (kF b0) := by
  refine Met.ofW (cc := cX4_merge) (maxL := 9) (ret := (some .int)) (by decide) rfl ?_
  intro p e s m args below meth c s₁ B hml hv
  obtain ⟨rfl, hH, hK⟩ := hv
  have hx := B.exec
  have hb := B.bytes
  have hr := B.returns
  have hts := atoms_spec (ws := wsX4_merge) B.pre
  have hown : s.vm.findClass RX4 = some m.cls := findClass_of_methodNamed B.named
  have hlocks := B.notSynchronized
  rw [hH]
  have hl := lv_entry ([.ref (μ 0), .int (ai), .int (bi)]) (n := 9) (Nat.le_of_ble_eq_true rfl)
  rw [lg_entry_eq]
  generalize (lg_sl ([.ref (μ 0), .int (ai), .int (bi)]) ++ List.replicate (9 - (lg_sl ([.ref (μ 0), .int (ai), .int (bi)])).length) Slot.unset).toArray = ls at hl ⊢
  have hl : lv_has ls 9 [(0, .ref (μ 0)), (1, .int (ai)), (2, .int (bi))] := hl
  have hWF := hR.1
  have hV4 : sV σ ≤ 400 := hWF.2.1
  have hB4 : sB σ ≤ 40 := hWF.2.2.2.1
  have hC4 : nC ≤ 64 := hMK.le
  refine lv_aload_n hx hb dX4_merge_0 rfl (lv_at hl 0 rfl) ?_
  refine lv_iload_n hx hb dX4_merge_1 rfl (lv_at hl 1 rfl) ?_
  refine k_callX (va_runV (As := [.int (ai)]) (rest := []) ⟨hx, hb, hml, hown, hts⟩ (c_X4_isBranch_n l D g b0 H μ (sV σ) (sB σ) nC x hM hV4 hB4 hC4 ai hN) (cwV 1 hts gX4_merge_X4_isBranch rfl rfl rfl (by decide +kernel) ⟨Nat.le_of_ble_eq_true rfl, Nat.le_of_ble_eq_true rfl⟩) ⟨kPc_blind, k_recv hK hM.o rfl, fun U hU hW => kPc_at hK hU hW⟩ rfl rfl hl.1 rfl (lv_room (Nat.le_of_ble_eq_true rfl)) dX4_merge_2 ⟨Nat.le_of_ble_eq_true rfl, Nat.le_of_ble_eq_true rfl⟩) ?_
  refine z_if_eq (tgt := 16) hx hb dX4_merge_5 (by decide) (fun _ => ?_) (fun h => by cases h)
  refine lv_iconst (v := (-1)) hx hb dX4_merge_16 (by decide +kernel) ?_
  exact r_iI hx hb hr LB.nil (Nat.le_refl _) (Nat.le_refl _) (fun r0 σ' hS => by
    obtain ⟨e1, e2⟩ := hS.n (Or.inl hN)
    subst e2
    exact ⟨e1.symm, _, _, hM, hR, hMK, MFr.rf⟩) dX4_merge_17 hlocks
set_option maxHeartbeats 4000000 in
set_option maxRecDepth 100000 in
/-- merge_n2 -/
theorem c_X4_merge_n2 (l : Launch) (D : va_G) (g : Nat → ClassId) (b0 : Nat) (H : Heap) (μ : Nat → Nat) (σ : SG) (nC : Nat) (x : Nat → Nat → Int32) (hM : MC D g b0 μ (sV σ) (sB σ) nC x H) (hR : MR σ x) (hMK : MK σ nC x) (a : Nat) (ha4 : a < sB σ) (bi : Int32) (hN : BrN σ bi) : Met l yX4_merge wsX4_merge ({ frames := 2, cells := 0, slots := 0, locals := 46 } : Room) (kPc D g [.ref (μ 0), .int (nI a), .int (bi)] H) (kI (MPubQ D g b0 μ H (SpMerge σ (nI a) bi))) 0 0 (kF b0) := by
  refine Met.ofW (cc := cX4_merge) (maxL := 9) (ret := (some .int)) (by decide) rfl ?_
  intro p e s m args below meth c s₁ B hml hv
  obtain ⟨rfl, hH, hK⟩ := hv
  have hx := B.exec
  have hb := B.bytes
  have hr := B.returns
  have hts := atoms_spec (ws := wsX4_merge) B.pre
  have hown : s.vm.findClass RX4 = some m.cls := findClass_of_methodNamed B.named
  have hlocks := B.notSynchronized
  rw [hH]
  have hl := lv_entry ([.ref (μ 0), .int (nI a), .int (bi)]) (n := 9) (Nat.le_of_ble_eq_true rfl)
  rw [lg_entry_eq]
  generalize (lg_sl ([.ref (μ 0), .int (nI a), .int (bi)]) ++ List.replicate (9 - (lg_sl ([.ref (μ 0), .int (nI a), .int (bi)])).length) Slot.unset).toArray = ls at hl ⊢
  have hl : lv_has ls 9 [(0, .ref (μ 0)), (1, .int (nI a)), (2, .int (bi))] := hl
  have hWF := hR.1
  have hV4 : sV σ ≤ 400 := hWF.2.1
  have hB4 : sB σ ≤ 40 := hWF.2.2.2.1
  have hC4 : nC ≤ 64 := hMK.le
  refine lv_aload_n hx hb dX4_merge_0 rfl (lv_at hl 0 rfl) ?_
  refine lv_iload_n hx hb dX4_merge_1 rfl (lv_at hl 1 rfl) ?_
  refine k_callX (va_runV (As := [.int (nI a)]) (rest := []) ⟨hx, hb, hml, hown, hts⟩ (c_X4_isBranch_y l D g b0 H μ (sV σ) (sB σ) nC x hM hV4 hB4 hC4 a ha4) (cwV 1 hts gX4_merge_X4_isBranch rfl rfl rfl (by decide +kernel) ⟨Nat.le_of_ble_eq_true rfl, Nat.le_of_ble_eq_true rfl⟩) ⟨kPc_blind, k_recv hK hM.o rfl, fun U hU hW => kPc_at hK hU hW⟩ rfl rfl hl.1 rfl (lv_room (Nat.le_of_ble_eq_true rfl)) dX4_merge_2 ⟨Nat.le_of_ble_eq_true rfl, Nat.le_of_ble_eq_true rfl⟩) ?_
  refine z_if_eq (tgt := 16) hx hb dX4_merge_5 (by decide) (fun h => by cases h) (fun _ => ?_)
  refine lv_aload_n hx hb dX4_merge_8 rfl (lv_at hl 0 rfl) ?_
  refine lv_iload_n hx hb dX4_merge_9 rfl (lv_at hl 2 rfl) ?_
  refine k_callX (va_runV (As := [.int (bi)]) (rest := []) ⟨hx, hb, hml, hown, hts⟩ (c_X4_isBranch_n l D g b0 H μ (sV σ) (sB σ) nC x hM hV4 hB4 hC4 bi hN) (cwV 1 hts gX4_merge_X4_isBranch rfl rfl rfl (by decide +kernel) ⟨Nat.le_of_ble_eq_true rfl, Nat.le_of_ble_eq_true rfl⟩) ⟨kPc_blind, k_recv hK hM.o rfl, fun U hU hW => kPc_at hK hU hW⟩ rfl rfl hl.1 rfl (lv_room (Nat.le_of_ble_eq_true rfl)) dX4_merge_10 ⟨Nat.le_of_ble_eq_true rfl, Nat.le_of_ble_eq_true rfl⟩) ?_
  refine z_if_ne (tgt := 18) hx hb dX4_merge_13 (by decide) (fun h => by cases h) (fun _ => ?_)
  refine lv_iconst (v := (-1)) hx hb dX4_merge_16 (by decide +kernel) ?_
  exact r_iI hx hb hr LB.nil (Nat.le_refl _) (Nat.le_refl _) (fun r0 σ' hS => by
    obtain ⟨e1, e2⟩ := hS.n (Or.inr hN)
    subst e2
    exact ⟨e1.symm, _, _, hM, hR, hMK, MFr.rf⟩) dX4_merge_17 hlocks
set_option maxHeartbeats 4000000 in
set_option maxRecDepth 100000 in
/-- merge_y0 -/
theorem c_X4_merge_y0 (l : Launch) (D : va_G) (g : Nat → ClassId) (b0 : Nat) (H : Heap) (μ : Nat → Nat) (σ : SG) (nC : Nat) (x : Nat → Nat → Int32) (hM : MC D g b0 μ (sV σ) (sB σ) nC x H) (hR : MR σ x) (hMK : MK σ nC x) (a b : Nat) (ha4 : a < sB σ) (hb4 : b < sB σ) (ho : GCo (sA σ (sH σ a)) (sA σ (sH σ b)) (sV σ) none) : Met l yX4_merge wsX4_merge ({ frames := 2, cells := 0, slots := 0, locals := 46 } : Room) (kPc D g [.ref (μ 0), .int (nI a), .int (nI b)] H) (kI (MPubQ D g b0 μ H (SpMerge σ (nI a) (nI b)))) 0 0 (kF b0) := by
  refine Met.ofW (cc := cX4_merge) (maxL := 9) (ret := (some .int)) (by decide) rfl ?_
  intro p e s m args below meth c s₁ B hml hv
  obtain ⟨rfl, hH, hK⟩ := hv
  have hx := B.exec
  have hb := B.bytes
  have hr := B.returns
  have hts := atoms_spec (ws := wsX4_merge) B.pre
  have hown : s.vm.findClass RX4 = some m.cls := findClass_of_methodNamed B.named
  have hlocks := B.notSynchronized
  rw [hH]
  have hl := lv_entry ([.ref (μ 0), .int (nI a), .int (nI b)]) (n := 9) (Nat.le_of_ble_eq_true rfl)
  rw [lg_entry_eq]
  generalize (lg_sl ([.ref (μ 0), .int (nI a), .int (nI b)]) ++ List.replicate (9 - (lg_sl ([.ref (μ 0), .int (nI a), .int (nI b)])).length) Slot.unset).toArray = ls at hl ⊢
  have hl : lv_has ls 9 [(0, .ref (μ 0)), (1, .int (nI a)), (2, .int (nI b))] := hl
  have hWF := hR.1
  have hV4 : sV σ ≤ 400 := hWF.2.1
  have hB4 : sB σ ≤ 40 := hWF.2.2.2.1
  have hC4 : nC ≤ 64 := hMK.le
  have hha := hWF.2.2.2.2.1 a ha4
  have hhb := hWF.2.2.2.2.1 b hb4
  have hoW := ho.w hWF hha hhb
  have hoV := ho.sw.w hWF hhb hha
  refine lv_aload_n hx hb dX4_merge_0 rfl (lv_at hl 0 rfl) ?_
  refine lv_iload_n hx hb dX4_merge_1 rfl (lv_at hl 1 rfl) ?_
  refine k_callX (va_runV (As := [.int (nI a)]) (rest := []) ⟨hx, hb, hml, hown, hts⟩ (c_X4_isBranch_y l D g b0 H μ (sV σ) (sB σ) nC x hM hV4 hB4 hC4 a ha4) (cwV 1 hts gX4_merge_X4_isBranch rfl rfl rfl (by decide +kernel) ⟨Nat.le_of_ble_eq_true rfl, Nat.le_of_ble_eq_true rfl⟩) ⟨kPc_blind, k_recv hK hM.o rfl, fun U hU hW => kPc_at hK hU hW⟩ rfl rfl hl.1 rfl (lv_room (Nat.le_of_ble_eq_true rfl)) dX4_merge_2 ⟨Nat.le_of_ble_eq_true rfl, Nat.le_of_ble_eq_true rfl⟩) ?_
  refine z_if_eq (tgt := 16) hx hb dX4_merge_5 (by decide) (fun h => by cases h) (fun _ => ?_)
  refine lv_aload_n hx hb dX4_merge_8 rfl (lv_at hl 0 rfl) ?_
  refine lv_iload_n hx hb dX4_merge_9 rfl (lv_at hl 2 rfl) ?_
  refine k_callX (va_runV (As := [.int (nI b)]) (rest := []) ⟨hx, hb, hml, hown, hts⟩ (c_X4_isBranch_y l D g b0 H μ (sV σ) (sB σ) nC x hM hV4 hB4 hC4 b hb4) (cwV 1 hts gX4_merge_X4_isBranch rfl rfl rfl (by decide +kernel) ⟨Nat.le_of_ble_eq_true rfl, Nat.le_of_ble_eq_true rfl⟩) ⟨kPc_blind, k_recv hK hM.o rfl, fun U hU hW => kPc_at hK hU hW⟩ rfl rfl hl.1 rfl (lv_room (Nat.le_of_ble_eq_true rfl)) dX4_merge_10 ⟨Nat.le_of_ble_eq_true rfl, Nat.le_of_ble_eq_true rfl⟩) ?_
  refine z_if_ne (tgt := 18) hx hb dX4_merge_13 (by decide) (fun _ => ?_) (fun h => by cases h)
  refine lv_aload_n hx hb dX4_merge_18 rfl (lv_at hl 0 rfl) ?_
  refine k_get (ci := 4) (C := RX4) (T := TX4) (N := 13) (v := .ref (μ 4)) hx hb hts (by decide +kernel) hown hK hM.o rfl 4 (by decide) rfl (hts (.fieldLink RX4 21 RX4 "heads" "[I") (by decide +kernel)) rfl dX4_merge_19 ?_
  refine lv_iload_n hx hb dX4_merge_22 rfl (lv_at hl 1 rfl) ?_
  refine k_iald hx hb hK hM.a4 (a) rfl (by omega) (by omega) dX4_merge_23 ?_
  rw [show x 4 (a) = nI (sH σ a) from (hR.2.2.2.2 a ha4)]
  refine lv_istore_n (lv' := [(3, .int (nI (sH σ a))), (0, .ref (μ 0)), (1, .int (nI a)), (2, .int (nI b))]) hx hb dX4_merge_24 rfl hl (by decide) rfl (fun ls hl => ?_)
  refine lv_aload_n hx hb dX4_merge_25 rfl (lv_at hl 1 rfl) ?_
  refine k_get (ci := 4) (C := RX4) (T := TX4) (N := 13) (v := .ref (μ 4)) hx hb hts (by decide +kernel) hown hK hM.o rfl 4 (by decide) rfl (hts (.fieldLink RX4 21 RX4 "heads" "[I") (by decide +kernel)) rfl dX4_merge_26 ?_
  refine lv_iload_n hx hb dX4_merge_29 rfl (lv_at hl 3 rfl) ?_
  refine k_iald hx hb hK hM.a4 (b) rfl (by omega) (by omega) dX4_merge_30 ?_
  rw [show x 4 (b) = nI (sH σ b) from (hR.2.2.2.2 b hb4)]
  refine lv_istore (lv' := [(4, .int (nI (sH σ b))), (3, .int (nI (sH σ a))), (0, .ref (μ 0)), (1, .int (nI a)), (2, .int (nI b))]) hx hb dX4_merge_31 hl (by decide) rfl (fun ls hl => ?_)
  refine lv_aload_n hx hb dX4_merge_33 rfl (lv_at hl 2 rfl) ?_
  refine lv_iload_n hx hb dX4_merge_34 rfl (lv_at hl 1 rfl) ?_
  refine lv_iload hx hb dX4_merge_35 (lv_at hl 0 rfl) ?_
  refine k_callI (va_runV (As := [.int (nI (sH σ a)), .int (nI (sH σ b))]) (rest := []) ⟨hx, hb, hml, hown, hts⟩ (c_X4_common l D g b0 H μ σ nC x hM hR hC4 (sH σ a) (sH σ b) hha hhb none ho) (cwV 2 hts gX4_merge_X4_common rfl rfl rfl (by decide +kernel) ⟨Nat.le_of_ble_eq_true rfl, Nat.le_of_ble_eq_true rfl⟩) ⟨kPc_blind, k_recv hK hM.o rfl, fun U hU hW => kPc_at hK hU hW⟩ rfl rfl hl.1 rfl (lv_room (Nat.le_of_ble_eq_true rfl)) dX4_merge_37 ⟨Nat.le_of_ble_eq_true rfl, Nat.le_of_ble_eq_true rfl⟩) LB.nil (fun rc H1 locs1 hLB1 hq1 => ?_)
  obtain ⟨hrc, m1, m2, hM1, hF1⟩ := hq1
  have hrc1 : rc = -1 := hrc
  subst hrc1
  have hR1 : MR σ (va_up (va_up x 5 m1) 6 m2) := (hR.up (by omega) _).up (by omega) _
  have hx81 : ∀ c, 8 ≤ c → (va_up (va_up x 5 m1) 6 m2) c = x c := fun c hc => by rw [up_ne _ _ (by omega), up_ne _ _ (by omega)]
  refine lv_istore (lv' := [(5, .int ((-1))), (4, .int (nI (sH σ b))), (3, .int (nI (sH σ a))), (0, .ref (μ 0)), (1, .int (nI a)), (2, .int (nI b))]) hx hb dX4_merge_40 hl (by decide) rfl (fun ls hl => ?_)
  refine lv_iload hx hb dX4_merge_42 (lv_at hl 0 rfl) ?_
  refine lv_iload hx hb dX4_merge_44 (lv_at hl 1 rfl) ?_
  refine lv_icmp_eq (tgt := 55) hx hb dX4_merge_46 (by decide) (fun q => absurd q.symm (nI_neg (by omega))) (fun _ => ?_)
  refine lv_iload hx hb dX4_merge_49 (lv_at hl 0 rfl) ?_
  refine lv_iload_n hx hb dX4_merge_51 rfl (lv_at hl 2 rfl) ?_
  refine lv_icmp_ne (tgt := 76) hx hb dX4_merge_52 (by decide) (fun _ => ?_) (fun q => absurd q.symm (nI_neg (by omega)))
  have hw1 : sA σ (sH σ a) (sH σ b) = false := ts_nt (fun z => by cases hoW.mpr z)
  have hv1 : sA σ (sH σ b) (sH σ a) = false := ts_nt (fun z => by cases hoV.mpr z)
  refine lv_aload_n hx hb dX4_merge_76 rfl (lv_at hl 3 rfl) ?_
  refine k_get (ci := 4) (C := RX4) (T := TX4) (N := 13) (v := .int (nI (sV σ))) hx hb hts (by decide +kernel) hown hK hM1.o rfl 3 (by decide) rfl (hts (.fieldLink RX4 43 RX4 "versions" "I") (by decide +kernel)) rfl dX4_merge_77 ?_
  refine lv_sipush (v := nI 400) hx hb dX4_merge_80 (by decide +kernel) ?_
  refine n_icmp_ne (tgt := 89) hx hb dX4_merge_83 (by decide) (by omega) (by omega) (fun c_801 => ?_) (fun c_801 => ?_)
  · skip
    refine lv_iconst (v := nI 0) hx hb dX4_merge_89 (by decide +kernel) ?_
    refine lv_istore (lv' := [(6, .int (nI 0)), (5, .int ((-1))), (4, .int (nI (sH σ b))), (3, .int (nI (sH σ a))), (0, .ref (μ 0)), (1, .int (nI a)), (2, .int (nI b))]) hx hb dX4_merge_90 hl (by decide) rfl (fun ls hl => ?_)
    have hV : sV σ < 400 := by omega
    obtain ⟨pb, hpb⟩ : ∃ pb : Nat → Bool, ∀ t, pb t = (((bt (sW σ (sH σ a)) t || bt (sW σ (sH σ b)) t) && !(obit σ none t)) || (bt (sW σ (sH σ a)) t && bt (sW σ (sH σ b)) t)) := ⟨_, fun _ => rfl⟩
    have hoo : OLt none (sV σ) := fun p hp => by cases hp
    obtain ⟨xs, hxs⟩ : ∃ xs, xs = (va_up (va_up x 5 m1) 6 m2) := ⟨_, rfl⟩
    rw [← hxs] at hM1 hR1 hx81
    have loop : ∀ (N i : Nat) (H2 : Heap) (locs2 : List Loc) (h1 : Nat → Int32), 4096 < i + N → i ≤ 4096 → MC D g b0 μ (sV σ) (sB σ) nC (va_up xs 7 h1) H2 → MFr μ H H2 → LB b0 locs2 → (∀ t, t < i → h1 t = b2i (pb t)) → ∀ ls, lv_has ls 9 [(6, .int (nI i)), (5, .int ((-1))), (4, .int (nI (sH σ b))), (3, .int (nI (sH σ a))), (0, .ref (μ 0)), (1, .int (nI a)), (2, .int (nI b))] → W p l e (headSpec wsX4_merge ({ frames := 2, cells := 0, slots := 0, locals := 46 } : Room)).room s m ([.ref (μ 0), .int (nI a), .int (nI b)] : List Value).toArray below meth c H2 locs2 0 0 (MQ below (kI (MPubQ D g b0 μ H (SpMerge σ (nI a) (nI b)))) ([.ref (μ 0), .int (nI a), .int (nI b)] : List Value).toArray s 0 0 (kF b0)) (F0 m 92 ls []) := by
      intro N
      induction N with
      | zero => intro i H2 locs2 h1 h0 h1; omega
      | succ N ih =>
        intro i H2 locs2 h1 hN hi hM2 hF hLB hv ls hl
        have hR2 := hR1.up (c := 7) (by omega) h1
        refine lv_iload hx hb dX4_merge_92 (lv_at hl 0 rfl) ?_
        refine lv_sipush (v := nI 4096) hx hb dX4_merge_94 (by decide +kernel) ?_
        refine n_icmp_ge (tgt := 169) hx hb dX4_merge_97 (by decide) (by omega) (by omega) (fun c_802 => ?_) (fun c_802 => ?_)
        · skip
          refine lv_aload_n hx hb dX4_merge_169 rfl (lv_at hl 4 rfl) ?_
          refine k_callU (va_runV (As := []) (rest := []) ⟨hx, hb, hml, hown, hts⟩ (c_X4_look l D g b0 H2 μ (sV σ) (sB σ) nC (va_up xs 7 h1) hM2 hV4 hB4 hC4 pb (fun t ht => by rw [up_eq]; exact hv t (by omega))) (cwV 0 hts gX4_merge_X4_look rfl rfl rfl (by decide +kernel) ⟨Nat.le_of_ble_eq_true rfl, Nat.le_of_ble_eq_true rfl⟩) ⟨kPc_blind, k_recv hK hM2.o rfl, fun U hU hW => kPc_at hK hU hW⟩ rfl rfl hl.1 rfl (lv_room (Nat.le_of_ble_eq_true rfl)) dX4_merge_170 ⟨Nat.le_of_ble_eq_true rfl, Nat.le_of_ble_eq_true rfl⟩) hLB (fun H3 locs3 hLB3 hq3 => ?_)
          obtain ⟨x3, hM3, hF3, hx3, hck⟩ := hq3
          have hc64 := cnt_crowd64 pb
          have hR3 : MR σ x3 := by
            refine ⟨hR2.1, ?_, ?_, ?_, ?_⟩
            · rw [hx3 1 (by omega)]; exact hR2.2.1
            · rw [hx3 2 (by omega)]; exact hR2.2.2.1
            · rw [hx3 3 (by omega)]; exact hR2.2.2.2.1
            · rw [hx3 4 (by omega)]; exact hR2.2.2.2.2
          have hx37 : ∀ t, t < 4096 → x3 7 t = b2i (pb t) := fun t ht => by rw [hx3 7 (by omega), up_eq]; exact hv t (by omega)
          refine lv_aload_n hx hb dX4_merge_173 rfl (lv_at hl 4 rfl) ?_
          refine k_get (ci := 4) (C := RX4) (T := TX4) (N := 13) (v := .int (nI ((cnt (crowd pb) 256)))) hx hb hts (by decide +kernel) hown hK hM3.o rfl 12 (by decide) rfl (hts (.fieldLink RX4 90 RX4 "conflicts" "I") (by decide +kernel)) rfl dX4_merge_174 ?_
          refine n_if_ne (tgt := 193) hx hb dX4_merge_177 (by decide) (by omega) (fun c_803 => ?_) (fun c_803 => ?_)
          · skip
            refine lv_aload_n hx hb dX4_merge_193 rfl (lv_at hl 4 rfl) ?_
            refine k_get (ci := 4) (C := RX4) (T := TX4) (N := 13) (v := .int (nI ((cnt (crowd pb) 256)))) hx hb hts (by decide +kernel) hown hK hM3.o rfl 12 (by decide) rfl (hts (.fieldLink RX4 90 RX4 "conflicts" "I") (by decide +kernel)) rfl dX4_merge_194 ?_
            refine r_iI hx hb hr hLB3 (Nat.le_refl _) (Nat.le_refl _) (fun r0 σ' hS => ?_) dX4_merge_197 hlocks
            rcases hS.y hWF ha4 hb4 with ⟨z, -⟩ | ⟨-, z, -⟩ | ⟨-, -, ⟨z, -⟩ | ⟨-, fb, m, hfb, hm, hr0, hcase⟩⟩
            · rw [hw1] at z; cases z
            · rw [hv1] at z; cases z
            · omega
            have hbm : ∀ t, t < 4096 → pb t = bt m t := fun t ht => by rw [mrg_bit hm ht, hpb t, ho.bits hWF hha hfb ht]
            have hcc : cnt (crowd (bt m)) 256 = cnt (crowd pb) 256 := cnt_congr (fun j hj => crowd_congr hj (fun t ht => (hbm t ht).symm))
            rw [hcc] at hr0 hcase
            rcases hcase with ⟨-, hs⟩ | ⟨z, -⟩
            · subst hs
              exact ⟨hr0.symm, _, _, hM3, hR3, ⟨hcc.symm, hck.congr hbm (fun _ _ => rfl)⟩, hF.tr hF3⟩
            · exact absurd z c_803
          · skip
            refine lv_aload_n hx hb dX4_merge_180 rfl (lv_at hl 4 rfl) ?_
            refine k_get (ci := 4) (C := RX4) (T := TX4) (N := 13) (v := .ref (μ 4)) hx hb hts (by decide +kernel) hown hK hM3.o rfl 4 (by decide) rfl (hts (.fieldLink RX4 21 RX4 "heads" "[I") (by decide +kernel)) rfl dX4_merge_181 ?_
            refine lv_iload_n hx hb dX4_merge_184 rfl (lv_at hl 5 rfl) ?_
            refine lv_aload_n hx hb dX4_merge_185 rfl (lv_at hl 4 rfl) ?_
            refine lv_iload_n hx hb dX4_merge_186 rfl (lv_at hl 3 rfl) ?_
            refine lv_iload hx hb dX4_merge_187 (lv_at hl 2 rfl) ?_
            refine k_callI (va_runV (As := [.int (nI (sH σ a)), .int (nI (sH σ b))]) (rest := [.int (nI a), .ref (μ 4)]) ⟨hx, hb, hml, hown, hts⟩ (c_X4_grow l D g b0 H3 μ (sV σ) (sB σ) (cnt (crowd pb) 256) x3 hM3 hV4 hB4 hc64 hV (nI (sH σ a)) (nI (sH σ b)) pb hx37) (cwV 2 hts gX4_merge_X4_grow rfl rfl rfl (by decide +kernel) ⟨Nat.le_of_ble_eq_true rfl, Nat.le_of_ble_eq_true rfl⟩) ⟨kPc_blind, k_recv hK hM3.o rfl, fun U hU hW => kPc_at hK hU hW⟩ rfl rfl hl.1 rfl (lv_room (Nat.le_of_ble_eq_true rfl)) dX4_merge_189 ⟨Nat.le_of_ble_eq_true rfl, Nat.le_of_ble_eq_true rfl⟩) hLB3 (fun rg H4 locs4 hLB4 hq4 => ?_)
            obtain ⟨rfl, s1, hM4, hF4, hs1, hs2⟩ := hq4
            refine k_iast hx hb hK hM4.a4 hLB4 (hM4.ge (by omega)) (a) rfl (by omega) (by omega) dX4_merge_192 (fun H_804 locs_805 hw_806 hC_807 hLB_808 => ?_)
            have hM_809 := hM4.set (c := 4) (by omega) (by omega) (f := (upd ((va_up (va_up (va_up x3 2 (upd (x3 2) (sV σ) (nI (sH σ a)))) 3 (upd (x3 3) (sV σ) (nI (sH σ b)))) 1 s1) 4) (a) (nI (sV σ)))) hw_806 hC_807
            refine lv_aload_n hx hb dX4_merge_193 rfl (lv_at hl 4 rfl) ?_
            refine k_get (ci := 4) (C := RX4) (T := TX4) (N := 13) (v := .int (nI ((cnt (crowd pb) 256)))) hx hb hts (by decide +kernel) hown hK hM_809.o rfl 12 (by decide) rfl (hts (.fieldLink RX4 90 RX4 "conflicts" "I") (by decide +kernel)) rfl dX4_merge_194 ?_
            refine r_iI hx hb hr hLB_808 (Nat.le_refl _) (Nat.le_refl _) (fun r0 σ' hS => ?_) dX4_merge_197 hlocks
            rcases hS.y hWF ha4 hb4 with ⟨z, -⟩ | ⟨-, z, -⟩ | ⟨-, -, ⟨z, -⟩ | ⟨-, fb, m, hfb, hm, hr0, hcase⟩⟩
            · rw [hw1] at z; cases z
            · rw [hv1] at z; cases z
            · omega
            have hbm : ∀ t, t < 4096 → pb t = bt m t := fun t ht => by rw [mrg_bit hm ht, hpb t, ho.bits hWF hha hfb ht]
            have hcc : cnt (crowd (bt m)) 256 = cnt (crowd pb) 256 := cnt_congr (fun j hj => crowd_congr hj (fun t ht => (hbm t ht).symm))
            rw [hcc] at hr0 hcase
            rcases hcase with ⟨z, -⟩ | ⟨-, w1, an, hs, han, hw1m⟩
            · exact absurd c_803 z
            · subst hs
              have hg := MR.grow (σ := gM σ m) (f := some (sH σ a)) (s := some (sH σ b)) (w := w1) (an := an) (s1 := s1) hR3 hV (fun p hp => by cases hp; exact hha) (fun p hp => by cases hp; exact hhb) han (fun t ht => by show s1 (4096 * sV σ + t) = _; rw [hs1 t ht, hbm t ht, bt_eq hw1m ht]) hs2
              have hg2 := hg.head (b := a) (v := sV σ) (Nat.lt_succ_self _)
              exact ⟨hr0.symm, _, _, hM_809, hg2, ⟨hcc.symm, hck.congr hbm (fun c hc => by rw [up_ne _ _ (by omega), up_ne _ _ (by omega), up_ne _ _ (by omega), up_ne _ _ (by omega)])⟩, ((hF.tr hF3).tr hF4).tr (MFr.chg (by omega) hC_807)⟩
        · skip
          refine lv_aload_n hx hb dX4_merge_100 rfl (lv_at hl 4 rfl) ?_
          refine lv_iload_n hx hb dX4_merge_101 rfl (lv_at hl 3 rfl) ?_
          refine lv_iload hx hb dX4_merge_102 (lv_at hl 0 rfl) ?_
          refine k_callX (va_runV (As := [.int (nI (sH σ a)), .int (nI i)]) (rest := []) ⟨hx, hb, hml, hown, hts⟩ (c_X4_has l D g b0 H2 μ (sV σ) (sB σ) (nC) (va_up xs 7 h1) hM2 (by omega) (by omega) (by omega) (some (sH σ a)) (i) (by omega) (bt (sW σ (sH σ a)) i) (hR2.has (o := some (sH σ a)) (fun p hp => by cases hp; exact hha) (by omega))) (cwV 2 hts gX4_merge_X4_has rfl rfl rfl (by decide +kernel) ⟨Nat.le_of_ble_eq_true rfl, Nat.le_of_ble_eq_true rfl⟩) ⟨kPc_blind, k_recv hK hM2.o rfl, fun U hU hW => kPc_at hK hU hW⟩ rfl rfl hl.1 rfl (lv_room (Nat.le_of_ble_eq_true rfl)) dX4_merge_104 ⟨Nat.le_of_ble_eq_true rfl, Nat.le_of_ble_eq_true rfl⟩) ?_
          refine lv_istore (lv' := [(7, .int (b2i (bt (sW σ (sH σ a)) i))), (6, .int (nI i)), (5, .int ((-1))), (4, .int (nI (sH σ b))), (3, .int (nI (sH σ a))), (0, .ref (μ 0)), (1, .int (nI a)), (2, .int (nI b))]) hx hb dX4_merge_107 hl (by decide) rfl (fun ls hl => ?_)
          refine lv_iload hx hb dX4_merge_109 (lv_at hl 0 rfl) ?_
          refine lv_aload_n hx hb dX4_merge_111 rfl (lv_at hl 5 rfl) ?_
          refine lv_iload hx hb dX4_merge_112 (lv_at hl 3 rfl) ?_
          refine lv_iload hx hb dX4_merge_114 (lv_at hl 1 rfl) ?_
          refine k_callX (va_runV (As := [.int (nI (sH σ b)), .int (nI i)]) (rest := [.int (b2i (bt (sW σ (sH σ a)) i))]) ⟨hx, hb, hml, hown, hts⟩ (c_X4_has l D g b0 H2 μ (sV σ) (sB σ) (nC) (va_up xs 7 h1) hM2 (by omega) (by omega) (by omega) (some (sH σ b)) (i) (by omega) (bt (sW σ (sH σ b)) i) (hR2.has (o := some (sH σ b)) (fun p hp => by cases hp; exact hhb) (by omega))) (cwV 2 hts gX4_merge_X4_has rfl rfl rfl (by decide +kernel) ⟨Nat.le_of_ble_eq_true rfl, Nat.le_of_ble_eq_true rfl⟩) ⟨kPc_blind, k_recv hK hM2.o rfl, fun U hU hW => kPc_at hK hU hW⟩ rfl rfl hl.1 rfl (lv_room (Nat.le_of_ble_eq_true rfl)) dX4_merge_116 ⟨Nat.le_of_ble_eq_true rfl, Nat.le_of_ble_eq_true rfl⟩) ?_
          have seg_810 : ∀ ls, lv_has ls 9 [(7, .int (b2i (bt (sW σ (sH σ a)) i))), (6, .int (nI i)), (5, .int ((-1))), (4, .int (nI (sH σ b))), (3, .int (nI (sH σ a))), (0, .ref (μ 0)), (1, .int (nI a)), (2, .int (nI b))] → W p l e (headSpec wsX4_merge ({ frames := 2, cells := 0, slots := 0, locals := 46 } : Room)).room s m ([.ref (μ 0), .int (nI a), .int (nI b)] : List Value).toArray below meth c H2 locs2 0 0 (MQ below (kI (MPubQ D g b0 μ H (SpMerge σ (nI a) (nI b)))) ([.ref (μ 0), .int (nI a), .int (nI b)] : List Value).toArray s 0 0 (kF b0)) (F0 m 143 ls [.int (b2i ((((bt (sW σ (sH σ a)) i || bt (sW σ (sH σ b)) i) && !(obit σ none i)) || (bt (sW σ (sH σ a)) i && bt (sW σ (sH σ b)) i))))]) → W p l e (headSpec wsX4_merge ({ frames := 2, cells := 0, slots := 0, locals := 46 } : Room)).room s m ([.ref (μ 0), .int (nI a), .int (nI b)] : List Value).toArray below meth c H2 locs2 0 0 (MQ below (kI (MPubQ D g b0 μ H (SpMerge σ (nI a) (nI b)))) ([.ref (μ 0), .int (nI a), .int (nI b)] : List Value).toArray s 0 0 (kF b0)) (F0 m 119 ls [.int (b2i (bt (sW σ (sH σ b)) i)), .int (b2i (bt (sW σ (sH σ a)) i))]) := by
            intro ls hl hk
            refine z_icmp_ne (tgt := 127) hx hb dX4_merge_119 (by decide) (fun c_811 => ?_) (fun c_811 => ?_)
            · skip
              refine lv_aload_n hx hb dX4_merge_127 rfl (lv_at hl 5 rfl) ?_
              refine lv_iload hx hb dX4_merge_128 (lv_at hl 2 rfl) ?_
              refine lv_iload hx hb dX4_merge_130 (lv_at hl 1 rfl) ?_
              refine k_callX (va_runV (As := [.int ((-1)), .int (nI i)]) (rest := []) ⟨hx, hb, hml, hown, hts⟩ (c_X4_has l D g b0 H2 μ (sV σ) (sB σ) (nC) (va_up xs 7 h1) hM2 (by omega) (by omega) (by omega) (none) (i) (by omega) (obit σ none i) (hR2.has hoo (by omega))) (cwV 2 hts gX4_merge_X4_has rfl rfl rfl (by decide +kernel) ⟨Nat.le_of_ble_eq_true rfl, Nat.le_of_ble_eq_true rfl⟩) ⟨kPc_blind, k_recv hK hM2.o rfl, fun U hU hW => kPc_at hK hU hW⟩ rfl rfl hl.1 rfl (lv_room (Nat.le_of_ble_eq_true rfl)) dX4_merge_132 ⟨Nat.le_of_ble_eq_true rfl, Nat.le_of_ble_eq_true rfl⟩) ?_
              refine z_if_ne (tgt := 142) hx hb dX4_merge_135 (by decide) (fun c_812 => ?_) (fun c_812 => ?_)
              · skip
                refine lv_iconst (v := b2i false) hx hb dX4_merge_142 (by decide +kernel) ?_
                have e : ((((bt (sW σ (sH σ a)) i || bt (sW σ (sH σ b)) i) && !(obit σ none i)) || (bt (sW σ (sH σ a)) i && bt (sW σ (sH σ b)) i))) = false := by
                  revert c_811 c_812
                  cases (bt (sW σ (sH σ a)) i) <;> cases (bt (sW σ (sH σ b)) i) <;> cases (obit σ none i) <;> simp
                rw [e] at hk
                exact hk
              · skip
                refine lv_iconst (v := b2i true) hx hb dX4_merge_138 (by decide +kernel) ?_
                refine lv_goto (tgt := 143) hx hb dX4_merge_139 (by decide) ?_
                have e : ((((bt (sW σ (sH σ a)) i || bt (sW σ (sH σ b)) i) && !(obit σ none i)) || (bt (sW σ (sH σ a)) i && bt (sW σ (sH σ b)) i))) = true := by
                  revert c_811 c_812
                  cases (bt (sW σ (sH σ a)) i) <;> cases (bt (sW σ (sH σ b)) i) <;> cases (obit σ none i) <;> simp
                rw [e] at hk
                exact hk
            · skip
              refine lv_iload hx hb dX4_merge_122 (lv_at hl 0 rfl) ?_
              refine lv_goto (tgt := 143) hx hb dX4_merge_124 (by decide) ?_
              have e : ((((bt (sW σ (sH σ a)) i || bt (sW σ (sH σ b)) i) && !(obit σ none i)) || (bt (sW σ (sH σ a)) i && bt (sW σ (sH σ b)) i))) = bt (sW σ (sH σ a)) i := by
                revert c_811
                cases (bt (sW σ (sH σ a)) i) <;> cases (bt (sW σ (sH σ b)) i) <;> cases (obit σ none i) <;> simp
              rw [e] at hk
              exact hk
          refine seg_810 ls hl ?_
          refine lv_istore (lv' := [(8, .int (b2i ((((bt (sW σ (sH σ a)) i || bt (sW σ (sH σ b)) i) && !(obit σ none i)) || (bt (sW σ (sH σ a)) i && bt (sW σ (sH σ b)) i))))), (7, .int (b2i (bt (sW σ (sH σ a)) i))), (6, .int (nI i)), (5, .int ((-1))), (4, .int (nI (sH σ b))), (3, .int (nI (sH σ a))), (0, .ref (μ 0)), (1, .int (nI a)), (2, .int (nI b))]) hx hb dX4_merge_143 hl (by decide) rfl (fun ls hl => ?_)
          refine lv_aload_n hx hb dX4_merge_145 rfl (lv_at hl 6 rfl) ?_
          refine k_get (ci := 4) (C := RX4) (T := TX4) (N := 13) (v := .ref (μ 7)) hx hb hts (by decide +kernel) hown hK hM2.o rfl 8 (by decide) rfl (hts (.fieldLink RX4 31 RX4 "hand" "[B") (by decide +kernel)) rfl dX4_merge_146 ?_
          refine lv_iload hx hb dX4_merge_149 (lv_at hl 2 rfl) ?_
          refine lv_iload hx hb dX4_merge_151 (lv_at hl 0 rfl) ?_
          refine z_if_eq (tgt := 160) hx hb dX4_merge_153 (by decide) (fun c_813 => ?_) (fun c_813 => ?_)
          · skip
            refine lv_iconst (v := b2i false) hx hb dX4_merge_160 (by decide +kernel) ?_
            refine lv_i2b (v := b2i false) hx hb dX4_merge_161 (b2i_b _) ?_
            refine k_bast (y := b2i false) hx hb hK hM2.a7 hLB (hM2.ge (by omega)) (i) rfl (by omega) (by omega) (b2i_y _) dX4_merge_162 (fun H_814 locs_815 hw_816 hC_817 hLB_818 => ?_)
            have hM_819 := hM2.set (c := 7) (by omega) (by omega) (f := (upd ((va_up xs 7 h1) 7) (i) (b2i false))) hw_816 hC_817
            refine lv_iinc (v := nI (i + 1)) (lv' := [(6, .int (nI (i + 1))), (8, .int (b2i ((((bt (sW σ (sH σ a)) i || bt (sW σ (sH σ b)) i) && !(obit σ none i)) || (bt (sW σ (sH σ a)) i && bt (sW σ (sH σ b)) i))))), (7, .int (b2i (bt (sW σ (sH σ a)) i))), (5, .int ((-1))), (4, .int (nI (sH σ b))), (3, .int (nI (sH σ a))), (0, .ref (μ 0)), (1, .int (nI a)), (2, .int (nI b))]) hx hb dX4_merge_163 hl (k := 2) rfl (nI_add (i) 1) (by decide) rfl (fun ls hl => ?_)
            refine lv_goto (tgt := 92) hx hb dX4_merge_166 (by decide) ?_
            have hM3 : MC D g b0 μ (sV σ) (sB σ) nC (va_up xs 7 (upd h1 i (b2i (pb i)))) H_814 := by
              have q := hM_819
              rw [up_eq, bx_uu] at q
              rw [hpb i, c_813]
              exact q
            refine ih (i + 1) H_814 locs_815 _ (by omega) (by omega) hM3 (hF.tr (MFr.chg (by omega) hC_817)) hLB_818 ?_ ls (lv_sub hl [0, 3, 4, 5, 6, 7, 8] rfl)
            intro t ht
            by_cases e : t = i
            · subst e; rw [pk_us]
            · rw [pk_un e]; exact hv t (by omega)
          · skip
            refine lv_iconst (v := b2i true) hx hb dX4_merge_156 (by decide +kernel) ?_
            refine lv_goto (tgt := 161) hx hb dX4_merge_157 (by decide) ?_
            refine lv_i2b (v := b2i true) hx hb dX4_merge_161 (b2i_b _) ?_
            refine k_bast (y := b2i true) hx hb hK hM2.a7 hLB (hM2.ge (by omega)) (i) rfl (by omega) (by omega) (b2i_y _) dX4_merge_162 (fun H_820 locs_821 hw_822 hC_823 hLB_824 => ?_)
            have hM_825 := hM2.set (c := 7) (by omega) (by omega) (f := (upd ((va_up xs 7 h1) 7) (i) (b2i true))) hw_822 hC_823
            refine lv_iinc (v := nI (i + 1)) (lv' := [(6, .int (nI (i + 1))), (8, .int (b2i ((((bt (sW σ (sH σ a)) i || bt (sW σ (sH σ b)) i) && !(obit σ none i)) || (bt (sW σ (sH σ a)) i && bt (sW σ (sH σ b)) i))))), (7, .int (b2i (bt (sW σ (sH σ a)) i))), (5, .int ((-1))), (4, .int (nI (sH σ b))), (3, .int (nI (sH σ a))), (0, .ref (μ 0)), (1, .int (nI a)), (2, .int (nI b))]) hx hb dX4_merge_163 hl (k := 2) rfl (nI_add (i) 1) (by decide) rfl (fun ls hl => ?_)
            refine lv_goto (tgt := 92) hx hb dX4_merge_166 (by decide) ?_
            have hM3 : MC D g b0 μ (sV σ) (sB σ) nC (va_up xs 7 (upd h1 i (b2i (pb i)))) H_820 := by
              have q := hM_825
              rw [up_eq, bx_uu] at q
              rw [hpb i, c_813]
              exact q
            refine ih (i + 1) H_820 locs_821 _ (by omega) (by omega) hM3 (hF.tr (MFr.chg (by omega) hC_823)) hLB_824 ?_ ls (lv_sub hl [0, 3, 4, 5, 6, 7, 8] rfl)
            intro t ht
            by_cases e : t = i
            · subst e; rw [pk_us]
            · rw [pk_un e]; exact hv t (by omega)
    exact loop 4097 0 H1 locs1 (xs 7) (by omega) (by omega) (by rw [up_self]; exact hM1) hF1 hLB1 (fun t h => by omega) ls (lv_sub hl [0, 1, 2, 3, 4, 5, 6] rfl)
  · skip
    refine lv_bipush (v := (-4)) hx hb dX4_merge_86 (by decide +kernel) ?_
    have hS1 : ∀ r0 σ', SpMerge σ (nI a) (nI b) r0 σ' → r0 = -4 ∧ σ' = σ := by
      intro r0 σ' hS
      rcases hS.y hWF ha4 hb4 with ⟨z, -⟩ | ⟨-, z, -⟩ | ⟨-, -, ⟨-, z⟩ | ⟨z, -⟩⟩
      · rw [hw1] at z; cases z
      · rw [hv1] at z; cases z
      · exact z
      · omega
    exact r_iI hx hb hr hLB1 (Nat.le_refl _) (Nat.le_refl _) (fun r0 σ' hS => by
      obtain ⟨e1, e2⟩ := hS1 _ _ hS
      subst e2
      exact ⟨e1.symm, _, _, hM1, hR1, (hMK.keep rfl hx81), hF1⟩) dX4_merge_88 hlocks
set_option maxHeartbeats 4000000 in
set_option maxRecDepth 100000 in
/-- merge_y1 -/
theorem c_X4_merge_y1 (l : Launch) (D : va_G) (g : Nat → ClassId) (b0 : Nat) (H : Heap) (μ : Nat → Nat) (σ : SG) (nC : Nat) (x : Nat → Nat → Int32) (hM : MC D g b0 μ (sV σ) (sB σ) nC x H) (hR : MR σ x) (hMK : MK σ nC x) (a b : Nat) (ha4 : a < sB σ) (hb4 : b < sB σ) (cc : Nat) (ho : GCo (sA σ (sH σ a)) (sA σ (sH σ b)) (sV σ) (some cc)) : Met l yX4_merge wsX4_merge ({ frames := 2, cells := 0, slots := 0, locals := 46 } : Room) (kPc D g [.ref (μ 0), .int (nI a), .int (nI b)] H) (kI (MPubQ D g b0 μ H (SpMerge σ (nI a) (nI b)))) 0 0 (kF b0) := by
  refine Met.ofW (cc := cX4_merge) (maxL := 9) (ret := (some .int)) (by decide) rfl ?_
  intro p e s m args below meth c s₁ B hml hv
  obtain ⟨rfl, hH, hK⟩ := hv
  have hx := B.exec
  have hb := B.bytes
  have hr := B.returns
  have hts := atoms_spec (ws := wsX4_merge) B.pre
  have hown : s.vm.findClass RX4 = some m.cls := findClass_of_methodNamed B.named
  have hlocks := B.notSynchronized
  rw [hH]
  have hl := lv_entry ([.ref (μ 0), .int (nI a), .int (nI b)]) (n := 9) (Nat.le_of_ble_eq_true rfl)
  rw [lg_entry_eq]
  generalize (lg_sl ([.ref (μ 0), .int (nI a), .int (nI b)]) ++ List.replicate (9 - (lg_sl ([.ref (μ 0), .int (nI a), .int (nI b)])).length) Slot.unset).toArray = ls at hl ⊢
  have hl : lv_has ls 9 [(0, .ref (μ 0)), (1, .int (nI a)), (2, .int (nI b))] := hl
  have hWF := hR.1
  have hV4 : sV σ ≤ 400 := hWF.2.1
  have hB4 : sB σ ≤ 40 := hWF.2.2.2.1
  have hC4 : nC ≤ 64 := hMK.le
  have hha := hWF.2.2.2.2.1 a ha4
  have hhb := hWF.2.2.2.2.1 b hb4
  have hoW := ho.w hWF hha hhb
  have hoV := ho.sw.w hWF hhb hha
  have hcV : cc < sV σ := ho.1
  refine lv_aload_n hx hb dX4_merge_0 rfl (lv_at hl 0 rfl) ?_
  refine lv_iload_n hx hb dX4_merge_1 rfl (lv_at hl 1 rfl) ?_
  refine k_callX (va_runV (As := [.int (nI a)]) (rest := []) ⟨hx, hb, hml, hown, hts⟩ (c_X4_isBranch_y l D g b0 H μ (sV σ) (sB σ) nC x hM hV4 hB4 hC4 a ha4) (cwV 1 hts gX4_merge_X4_isBranch rfl rfl rfl (by decide +kernel) ⟨Nat.le_of_ble_eq_true rfl, Nat.le_of_ble_eq_true rfl⟩) ⟨kPc_blind, k_recv hK hM.o rfl, fun U hU hW => kPc_at hK hU hW⟩ rfl rfl hl.1 rfl (lv_room (Nat.le_of_ble_eq_true rfl)) dX4_merge_2 ⟨Nat.le_of_ble_eq_true rfl, Nat.le_of_ble_eq_true rfl⟩) ?_
  refine z_if_eq (tgt := 16) hx hb dX4_merge_5 (by decide) (fun h => by cases h) (fun _ => ?_)
  refine lv_aload_n hx hb dX4_merge_8 rfl (lv_at hl 0 rfl) ?_
  refine lv_iload_n hx hb dX4_merge_9 rfl (lv_at hl 2 rfl) ?_
  refine k_callX (va_runV (As := [.int (nI b)]) (rest := []) ⟨hx, hb, hml, hown, hts⟩ (c_X4_isBranch_y l D g b0 H μ (sV σ) (sB σ) nC x hM hV4 hB4 hC4 b hb4) (cwV 1 hts gX4_merge_X4_isBranch rfl rfl rfl (by decide +kernel) ⟨Nat.le_of_ble_eq_true rfl, Nat.le_of_ble_eq_true rfl⟩) ⟨kPc_blind, k_recv hK hM.o rfl, fun U hU hW => kPc_at hK hU hW⟩ rfl rfl hl.1 rfl (lv_room (Nat.le_of_ble_eq_true rfl)) dX4_merge_10 ⟨Nat.le_of_ble_eq_true rfl, Nat.le_of_ble_eq_true rfl⟩) ?_
  refine z_if_ne (tgt := 18) hx hb dX4_merge_13 (by decide) (fun _ => ?_) (fun h => by cases h)
  refine lv_aload_n hx hb dX4_merge_18 rfl (lv_at hl 0 rfl) ?_
  refine k_get (ci := 4) (C := RX4) (T := TX4) (N := 13) (v := .ref (μ 4)) hx hb hts (by decide +kernel) hown hK hM.o rfl 4 (by decide) rfl (hts (.fieldLink RX4 21 RX4 "heads" "[I") (by decide +kernel)) rfl dX4_merge_19 ?_
  refine lv_iload_n hx hb dX4_merge_22 rfl (lv_at hl 1 rfl) ?_
  refine k_iald hx hb hK hM.a4 (a) rfl (by omega) (by omega) dX4_merge_23 ?_
  rw [show x 4 (a) = nI (sH σ a) from (hR.2.2.2.2 a ha4)]
  refine lv_istore_n (lv' := [(3, .int (nI (sH σ a))), (0, .ref (μ 0)), (1, .int (nI a)), (2, .int (nI b))]) hx hb dX4_merge_24 rfl hl (by decide) rfl (fun ls hl => ?_)
  refine lv_aload_n hx hb dX4_merge_25 rfl (lv_at hl 1 rfl) ?_
  refine k_get (ci := 4) (C := RX4) (T := TX4) (N := 13) (v := .ref (μ 4)) hx hb hts (by decide +kernel) hown hK hM.o rfl 4 (by decide) rfl (hts (.fieldLink RX4 21 RX4 "heads" "[I") (by decide +kernel)) rfl dX4_merge_26 ?_
  refine lv_iload_n hx hb dX4_merge_29 rfl (lv_at hl 3 rfl) ?_
  refine k_iald hx hb hK hM.a4 (b) rfl (by omega) (by omega) dX4_merge_30 ?_
  rw [show x 4 (b) = nI (sH σ b) from (hR.2.2.2.2 b hb4)]
  refine lv_istore (lv' := [(4, .int (nI (sH σ b))), (3, .int (nI (sH σ a))), (0, .ref (μ 0)), (1, .int (nI a)), (2, .int (nI b))]) hx hb dX4_merge_31 hl (by decide) rfl (fun ls hl => ?_)
  refine lv_aload_n hx hb dX4_merge_33 rfl (lv_at hl 2 rfl) ?_
  refine lv_iload_n hx hb dX4_merge_34 rfl (lv_at hl 1 rfl) ?_
  refine lv_iload hx hb dX4_merge_35 (lv_at hl 0 rfl) ?_
  refine k_callI (va_runV (As := [.int (nI (sH σ a)), .int (nI (sH σ b))]) (rest := []) ⟨hx, hb, hml, hown, hts⟩ (c_X4_common l D g b0 H μ σ nC x hM hR hC4 (sH σ a) (sH σ b) hha hhb (some cc) ho) (cwV 2 hts gX4_merge_X4_common rfl rfl rfl (by decide +kernel) ⟨Nat.le_of_ble_eq_true rfl, Nat.le_of_ble_eq_true rfl⟩) ⟨kPc_blind, k_recv hK hM.o rfl, fun U hU hW => kPc_at hK hU hW⟩ rfl rfl hl.1 rfl (lv_room (Nat.le_of_ble_eq_true rfl)) dX4_merge_37 ⟨Nat.le_of_ble_eq_true rfl, Nat.le_of_ble_eq_true rfl⟩) LB.nil (fun rc H1 locs1 hLB1 hq1 => ?_)
  obtain ⟨hrc, m1, m2, hM1, hF1⟩ := hq1
  have hrc1 : rc = nI cc := hrc
  subst hrc1
  have hR1 : MR σ (va_up (va_up x 5 m1) 6 m2) := (hR.up (by omega) _).up (by omega) _
  have hx81 : ∀ c, 8 ≤ c → (va_up (va_up x 5 m1) 6 m2) c = x c := fun c hc => by rw [up_ne _ _ (by omega), up_ne _ _ (by omega)]
  refine lv_istore (lv' := [(5, .int (nI cc)), (4, .int (nI (sH σ b))), (3, .int (nI (sH σ a))), (0, .ref (μ 0)), (1, .int (nI a)), (2, .int (nI b))]) hx hb dX4_merge_40 hl (by decide) rfl (fun ls hl => ?_)
  refine lv_iload hx hb dX4_merge_42 (lv_at hl 0 rfl) ?_
  refine lv_iload hx hb dX4_merge_44 (lv_at hl 1 rfl) ?_
  refine n_icmp_eq (tgt := 55) hx hb dX4_merge_46 (by decide) (by omega) (by omega) (fun c_826 => ?_) (fun c_826 => ?_)
  · skip
    refine lv_aload_n hx hb dX4_merge_55 rfl (lv_at hl 3 rfl) ?_
    refine lv_iconst (v := nI 0) hx hb dX4_merge_56 (by decide +kernel) ?_
    refine k_put (ci := 4) (T := TX4) (N := 13) (v := .int (nI 0)) hx hb hts (by decide +kernel) tyX4 tyX4_ok nmX4 hown hK hM1.o hLB1 (hM1.ge (by omega)) rfl 12 (by decide) rfl (hts (.fieldLink RX4 90 RX4 "conflicts" "I") (by decide +kernel)) rfl (ty := .int) (by decide +kernel) rfl rfl (Nat.le_of_ble_eq_true rfl) dX4_merge_57 (fun H_827 locs_828 ho_829 hC_830 hLB_831 => ?_)
    have hM_832 := hM1.num (nV' := sV σ) (nB' := sB σ) (nC' := 0) ho_829 hC_830
    refine lv_iload hx hb dX4_merge_60 (lv_at hl 0 rfl) ?_
    refine lv_iload_n hx hb dX4_merge_62 rfl (lv_at hl 2 rfl) ?_
    refine n_icmp_ne (tgt := 74) hx hb dX4_merge_63 (by decide) (by omega) (by omega) (fun c_833 => ?_) (fun c_833 => ?_)
    · skip
      refine lv_iconst (v := nI 0) hx hb dX4_merge_74 (by decide +kernel) ?_
      refine r_iI hx hb hr hLB_831 (Nat.le_refl _) (Nat.le_refl _) (fun r0 σ' hS => ?_) dX4_merge_75 hlocks
      have hw1 : sA σ (sH σ a) (sH σ b) = true := hoW.mp (by rw [c_826])
      rcases hS.y hWF ha4 hb4 with ⟨-, hr0, m, hZ, hs⟩ | ⟨z, -⟩ | ⟨z, -⟩
      · subst hs
        exact ⟨hr0.symm, 0, _, hM_832, hR1, MK.zero hZ rfl _, (hF1.tr (MFr.chg (by omega) hC_830))⟩
      · rw [hw1] at z; cases z
      · rw [hw1] at z; cases z
    · skip
      refine lv_aload_n hx hb dX4_merge_66 rfl (lv_at hl 3 rfl) ?_
      refine k_get (ci := 4) (C := RX4) (T := TX4) (N := 13) (v := .ref (μ 4)) hx hb hts (by decide +kernel) hown hK hM_832.o rfl 4 (by decide) rfl (hts (.fieldLink RX4 21 RX4 "heads" "[I") (by decide +kernel)) rfl dX4_merge_67 ?_
      refine lv_iload_n hx hb dX4_merge_70 rfl (lv_at hl 4 rfl) ?_
      refine lv_iload hx hb dX4_merge_71 (lv_at hl 1 rfl) ?_
      refine k_iast hx hb hK hM_832.a4 hLB_831 (hM_832.ge (by omega)) (a) rfl (by omega) (by omega) dX4_merge_73 (fun H_834 locs_835 hw_836 hC_837 hLB_838 => ?_)
      have hM_839 := hM_832.set (c := 4) (by omega) (by omega) (f := (upd ((va_up (va_up x 5 m1) 6 m2) 4) (a) (nI (sH σ b)))) hw_836 hC_837
      refine lv_iconst (v := nI 0) hx hb dX4_merge_74 (by decide +kernel) ?_
      refine r_iI hx hb hr hLB_838 (Nat.le_refl _) (Nat.le_refl _) (fun r0 σ' hS => ?_) dX4_merge_75 hlocks
      have hw1 : sA σ (sH σ a) (sH σ b) = true := hoW.mp (by rw [c_826])
      rcases hS.y hWF ha4 hb4 with ⟨-, hr0, m, hZ, hs⟩ | ⟨z, -⟩ | ⟨z, -⟩
      · subst hs
        have hvw : sH σ b = sH σ a := by omega
        have hR2 : MR σ (va_up (va_up (va_up x 5 m1) 6 m2) 4 (upd ((va_up (va_up x 5 m1) 6 m2) 4) (a) (nI (sH σ b)))) := by
          have q := hR1.head (b := a) (v := sH σ b) hhb
          rw [hvw, gHead_id] at q
          rw [hvw]
          exact q
        exact ⟨hr0.symm, 0, _, hM_839, hR2, MK.zero hZ rfl _, ((hF1.tr (MFr.chg (by omega) hC_830)).tr (MFr.chg (by omega) hC_837))⟩
      · rw [hw1] at z; cases z
      · rw [hw1] at z; cases z
  · skip
    refine lv_iload hx hb dX4_merge_49 (lv_at hl 0 rfl) ?_
    refine lv_iload_n hx hb dX4_merge_51 rfl (lv_at hl 2 rfl) ?_
    refine n_icmp_ne (tgt := 76) hx hb dX4_merge_52 (by decide) (by omega) (by omega) (fun c_840 => ?_) (fun c_840 => ?_)
    · skip
      have hw1 : sA σ (sH σ a) (sH σ b) = false := ts_nt (fun z => by have e := Option.some.inj (hoW.mpr z); omega)
      have hv1 : sA σ (sH σ b) (sH σ a) = false := ts_nt (fun z => by have e := Option.some.inj (hoV.mpr z); omega)
      refine lv_aload_n hx hb dX4_merge_76 rfl (lv_at hl 3 rfl) ?_
      refine k_get (ci := 4) (C := RX4) (T := TX4) (N := 13) (v := .int (nI (sV σ))) hx hb hts (by decide +kernel) hown hK hM1.o rfl 3 (by decide) rfl (hts (.fieldLink RX4 43 RX4 "versions" "I") (by decide +kernel)) rfl dX4_merge_77 ?_
      refine lv_sipush (v := nI 400) hx hb dX4_merge_80 (by decide +kernel) ?_
      refine n_icmp_ne (tgt := 89) hx hb dX4_merge_83 (by decide) (by omega) (by omega) (fun c_841 => ?_) (fun c_841 => ?_)
      · skip
        refine lv_iconst (v := nI 0) hx hb dX4_merge_89 (by decide +kernel) ?_
        refine lv_istore (lv' := [(6, .int (nI 0)), (5, .int (nI cc)), (4, .int (nI (sH σ b))), (3, .int (nI (sH σ a))), (0, .ref (μ 0)), (1, .int (nI a)), (2, .int (nI b))]) hx hb dX4_merge_90 hl (by decide) rfl (fun ls hl => ?_)
        have hV : sV σ < 400 := by omega
        obtain ⟨pb, hpb⟩ : ∃ pb : Nat → Bool, ∀ t, pb t = (((bt (sW σ (sH σ a)) t || bt (sW σ (sH σ b)) t) && !(obit σ (some cc) t)) || (bt (sW σ (sH σ a)) t && bt (sW σ (sH σ b)) t)) := ⟨_, fun _ => rfl⟩
        have hoo : OLt (some cc) (sV σ) := fun p hp => by cases hp; exact hcV
        obtain ⟨xs, hxs⟩ : ∃ xs, xs = (va_up (va_up x 5 m1) 6 m2) := ⟨_, rfl⟩
        rw [← hxs] at hM1 hR1 hx81
        have loop : ∀ (N i : Nat) (H2 : Heap) (locs2 : List Loc) (h1 : Nat → Int32), 4096 < i + N → i ≤ 4096 → MC D g b0 μ (sV σ) (sB σ) nC (va_up xs 7 h1) H2 → MFr μ H H2 → LB b0 locs2 → (∀ t, t < i → h1 t = b2i (pb t)) → ∀ ls, lv_has ls 9 [(6, .int (nI i)), (5, .int (nI cc)), (4, .int (nI (sH σ b))), (3, .int (nI (sH σ a))), (0, .ref (μ 0)), (1, .int (nI a)), (2, .int (nI b))] → W p l e (headSpec wsX4_merge ({ frames := 2, cells := 0, slots := 0, locals := 46 } : Room)).room s m ([.ref (μ 0), .int (nI a), .int (nI b)] : List Value).toArray below meth c H2 locs2 0 0 (MQ below (kI (MPubQ D g b0 μ H (SpMerge σ (nI a) (nI b)))) ([.ref (μ 0), .int (nI a), .int (nI b)] : List Value).toArray s 0 0 (kF b0)) (F0 m 92 ls []) := by
          intro N
          induction N with
          | zero => intro i H2 locs2 h1 h0 h1; omega
          | succ N ih =>
            intro i H2 locs2 h1 hN hi hM2 hF hLB hv ls hl
            have hR2 := hR1.up (c := 7) (by omega) h1
            refine lv_iload hx hb dX4_merge_92 (lv_at hl 0 rfl) ?_
            refine lv_sipush (v := nI 4096) hx hb dX4_merge_94 (by decide +kernel) ?_
            refine n_icmp_ge (tgt := 169) hx hb dX4_merge_97 (by decide) (by omega) (by omega) (fun c_842 => ?_) (fun c_842 => ?_)
            · skip
              refine lv_aload_n hx hb dX4_merge_169 rfl (lv_at hl 4 rfl) ?_
              refine k_callU (va_runV (As := []) (rest := []) ⟨hx, hb, hml, hown, hts⟩ (c_X4_look l D g b0 H2 μ (sV σ) (sB σ) nC (va_up xs 7 h1) hM2 hV4 hB4 hC4 pb (fun t ht => by rw [up_eq]; exact hv t (by omega))) (cwV 0 hts gX4_merge_X4_look rfl rfl rfl (by decide +kernel) ⟨Nat.le_of_ble_eq_true rfl, Nat.le_of_ble_eq_true rfl⟩) ⟨kPc_blind, k_recv hK hM2.o rfl, fun U hU hW => kPc_at hK hU hW⟩ rfl rfl hl.1 rfl (lv_room (Nat.le_of_ble_eq_true rfl)) dX4_merge_170 ⟨Nat.le_of_ble_eq_true rfl, Nat.le_of_ble_eq_true rfl⟩) hLB (fun H3 locs3 hLB3 hq3 => ?_)
              obtain ⟨x3, hM3, hF3, hx3, hck⟩ := hq3
              have hc64 := cnt_crowd64 pb
              have hR3 : MR σ x3 := by
                refine ⟨hR2.1, ?_, ?_, ?_, ?_⟩
                · rw [hx3 1 (by omega)]; exact hR2.2.1
                · rw [hx3 2 (by omega)]; exact hR2.2.2.1
                · rw [hx3 3 (by omega)]; exact hR2.2.2.2.1
                · rw [hx3 4 (by omega)]; exact hR2.2.2.2.2
              have hx37 : ∀ t, t < 4096 → x3 7 t = b2i (pb t) := fun t ht => by rw [hx3 7 (by omega), up_eq]; exact hv t (by omega)
              refine lv_aload_n hx hb dX4_merge_173 rfl (lv_at hl 4 rfl) ?_
              refine k_get (ci := 4) (C := RX4) (T := TX4) (N := 13) (v := .int (nI ((cnt (crowd pb) 256)))) hx hb hts (by decide +kernel) hown hK hM3.o rfl 12 (by decide) rfl (hts (.fieldLink RX4 90 RX4 "conflicts" "I") (by decide +kernel)) rfl dX4_merge_174 ?_
              refine n_if_ne (tgt := 193) hx hb dX4_merge_177 (by decide) (by omega) (fun c_843 => ?_) (fun c_843 => ?_)
              · skip
                refine lv_aload_n hx hb dX4_merge_193 rfl (lv_at hl 4 rfl) ?_
                refine k_get (ci := 4) (C := RX4) (T := TX4) (N := 13) (v := .int (nI ((cnt (crowd pb) 256)))) hx hb hts (by decide +kernel) hown hK hM3.o rfl 12 (by decide) rfl (hts (.fieldLink RX4 90 RX4 "conflicts" "I") (by decide +kernel)) rfl dX4_merge_194 ?_
                refine r_iI hx hb hr hLB3 (Nat.le_refl _) (Nat.le_refl _) (fun r0 σ' hS => ?_) dX4_merge_197 hlocks
                rcases hS.y hWF ha4 hb4 with ⟨z, -⟩ | ⟨-, z, -⟩ | ⟨-, -, ⟨z, -⟩ | ⟨-, fb, m, hfb, hm, hr0, hcase⟩⟩
                · rw [hw1] at z; cases z
                · rw [hv1] at z; cases z
                · omega
                have hbm : ∀ t, t < 4096 → pb t = bt m t := fun t ht => by rw [mrg_bit hm ht, hpb t, ho.bits hWF hha hfb ht]
                have hcc : cnt (crowd (bt m)) 256 = cnt (crowd pb) 256 := cnt_congr (fun j hj => crowd_congr hj (fun t ht => (hbm t ht).symm))
                rw [hcc] at hr0 hcase
                rcases hcase with ⟨-, hs⟩ | ⟨z, -⟩
                · subst hs
                  exact ⟨hr0.symm, _, _, hM3, hR3, ⟨hcc.symm, hck.congr hbm (fun _ _ => rfl)⟩, hF.tr hF3⟩
                · exact absurd z c_843
              · skip
                refine lv_aload_n hx hb dX4_merge_180 rfl (lv_at hl 4 rfl) ?_
                refine k_get (ci := 4) (C := RX4) (T := TX4) (N := 13) (v := .ref (μ 4)) hx hb hts (by decide +kernel) hown hK hM3.o rfl 4 (by decide) rfl (hts (.fieldLink RX4 21 RX4 "heads" "[I") (by decide +kernel)) rfl dX4_merge_181 ?_
                refine lv_iload_n hx hb dX4_merge_184 rfl (lv_at hl 5 rfl) ?_
                refine lv_aload_n hx hb dX4_merge_185 rfl (lv_at hl 4 rfl) ?_
                refine lv_iload_n hx hb dX4_merge_186 rfl (lv_at hl 3 rfl) ?_
                refine lv_iload hx hb dX4_merge_187 (lv_at hl 2 rfl) ?_
                refine k_callI (va_runV (As := [.int (nI (sH σ a)), .int (nI (sH σ b))]) (rest := [.int (nI a), .ref (μ 4)]) ⟨hx, hb, hml, hown, hts⟩ (c_X4_grow l D g b0 H3 μ (sV σ) (sB σ) (cnt (crowd pb) 256) x3 hM3 hV4 hB4 hc64 hV (nI (sH σ a)) (nI (sH σ b)) pb hx37) (cwV 2 hts gX4_merge_X4_grow rfl rfl rfl (by decide +kernel) ⟨Nat.le_of_ble_eq_true rfl, Nat.le_of_ble_eq_true rfl⟩) ⟨kPc_blind, k_recv hK hM3.o rfl, fun U hU hW => kPc_at hK hU hW⟩ rfl rfl hl.1 rfl (lv_room (Nat.le_of_ble_eq_true rfl)) dX4_merge_189 ⟨Nat.le_of_ble_eq_true rfl, Nat.le_of_ble_eq_true rfl⟩) hLB3 (fun rg H4 locs4 hLB4 hq4 => ?_)
                obtain ⟨rfl, s1, hM4, hF4, hs1, hs2⟩ := hq4
                refine k_iast hx hb hK hM4.a4 hLB4 (hM4.ge (by omega)) (a) rfl (by omega) (by omega) dX4_merge_192 (fun H_844 locs_845 hw_846 hC_847 hLB_848 => ?_)
                have hM_849 := hM4.set (c := 4) (by omega) (by omega) (f := (upd ((va_up (va_up (va_up x3 2 (upd (x3 2) (sV σ) (nI (sH σ a)))) 3 (upd (x3 3) (sV σ) (nI (sH σ b)))) 1 s1) 4) (a) (nI (sV σ)))) hw_846 hC_847
                refine lv_aload_n hx hb dX4_merge_193 rfl (lv_at hl 4 rfl) ?_
                refine k_get (ci := 4) (C := RX4) (T := TX4) (N := 13) (v := .int (nI ((cnt (crowd pb) 256)))) hx hb hts (by decide +kernel) hown hK hM_849.o rfl 12 (by decide) rfl (hts (.fieldLink RX4 90 RX4 "conflicts" "I") (by decide +kernel)) rfl dX4_merge_194 ?_
                refine r_iI hx hb hr hLB_848 (Nat.le_refl _) (Nat.le_refl _) (fun r0 σ' hS => ?_) dX4_merge_197 hlocks
                rcases hS.y hWF ha4 hb4 with ⟨z, -⟩ | ⟨-, z, -⟩ | ⟨-, -, ⟨z, -⟩ | ⟨-, fb, m, hfb, hm, hr0, hcase⟩⟩
                · rw [hw1] at z; cases z
                · rw [hv1] at z; cases z
                · omega
                have hbm : ∀ t, t < 4096 → pb t = bt m t := fun t ht => by rw [mrg_bit hm ht, hpb t, ho.bits hWF hha hfb ht]
                have hcc : cnt (crowd (bt m)) 256 = cnt (crowd pb) 256 := cnt_congr (fun j hj => crowd_congr hj (fun t ht => (hbm t ht).symm))
                rw [hcc] at hr0 hcase
                rcases hcase with ⟨z, -⟩ | ⟨-, w1, an, hs, han, hw1m⟩
                · exact absurd c_843 z
                · subst hs
                  have hg := MR.grow (σ := gM σ m) (f := some (sH σ a)) (s := some (sH σ b)) (w := w1) (an := an) (s1 := s1) hR3 hV (fun p hp => by cases hp; exact hha) (fun p hp => by cases hp; exact hhb) han (fun t ht => by show s1 (4096 * sV σ + t) = _; rw [hs1 t ht, hbm t ht, bt_eq hw1m ht]) hs2
                  have hg2 := hg.head (b := a) (v := sV σ) (Nat.lt_succ_self _)
                  exact ⟨hr0.symm, _, _, hM_849, hg2, ⟨hcc.symm, hck.congr hbm (fun c hc => by rw [up_ne _ _ (by omega), up_ne _ _ (by omega), up_ne _ _ (by omega), up_ne _ _ (by omega)])⟩, ((hF.tr hF3).tr hF4).tr (MFr.chg (by omega) hC_847)⟩
            · skip
              refine lv_aload_n hx hb dX4_merge_100 rfl (lv_at hl 4 rfl) ?_
              refine lv_iload_n hx hb dX4_merge_101 rfl (lv_at hl 3 rfl) ?_
              refine lv_iload hx hb dX4_merge_102 (lv_at hl 0 rfl) ?_
              refine k_callX (va_runV (As := [.int (nI (sH σ a)), .int (nI i)]) (rest := []) ⟨hx, hb, hml, hown, hts⟩ (c_X4_has l D g b0 H2 μ (sV σ) (sB σ) (nC) (va_up xs 7 h1) hM2 (by omega) (by omega) (by omega) (some (sH σ a)) (i) (by omega) (bt (sW σ (sH σ a)) i) (hR2.has (o := some (sH σ a)) (fun p hp => by cases hp; exact hha) (by omega))) (cwV 2 hts gX4_merge_X4_has rfl rfl rfl (by decide +kernel) ⟨Nat.le_of_ble_eq_true rfl, Nat.le_of_ble_eq_true rfl⟩) ⟨kPc_blind, k_recv hK hM2.o rfl, fun U hU hW => kPc_at hK hU hW⟩ rfl rfl hl.1 rfl (lv_room (Nat.le_of_ble_eq_true rfl)) dX4_merge_104 ⟨Nat.le_of_ble_eq_true rfl, Nat.le_of_ble_eq_true rfl⟩) ?_
              refine lv_istore (lv' := [(7, .int (b2i (bt (sW σ (sH σ a)) i))), (6, .int (nI i)), (5, .int (nI cc)), (4, .int (nI (sH σ b))), (3, .int (nI (sH σ a))), (0, .ref (μ 0)), (1, .int (nI a)), (2, .int (nI b))]) hx hb dX4_merge_107 hl (by decide) rfl (fun ls hl => ?_)
              refine lv_iload hx hb dX4_merge_109 (lv_at hl 0 rfl) ?_
              refine lv_aload_n hx hb dX4_merge_111 rfl (lv_at hl 5 rfl) ?_
              refine lv_iload hx hb dX4_merge_112 (lv_at hl 3 rfl) ?_
              refine lv_iload hx hb dX4_merge_114 (lv_at hl 1 rfl) ?_
              refine k_callX (va_runV (As := [.int (nI (sH σ b)), .int (nI i)]) (rest := [.int (b2i (bt (sW σ (sH σ a)) i))]) ⟨hx, hb, hml, hown, hts⟩ (c_X4_has l D g b0 H2 μ (sV σ) (sB σ) (nC) (va_up xs 7 h1) hM2 (by omega) (by omega) (by omega) (some (sH σ b)) (i) (by omega) (bt (sW σ (sH σ b)) i) (hR2.has (o := some (sH σ b)) (fun p hp => by cases hp; exact hhb) (by omega))) (cwV 2 hts gX4_merge_X4_has rfl rfl rfl (by decide +kernel) ⟨Nat.le_of_ble_eq_true rfl, Nat.le_of_ble_eq_true rfl⟩) ⟨kPc_blind, k_recv hK hM2.o rfl, fun U hU hW => kPc_at hK hU hW⟩ rfl rfl hl.1 rfl (lv_room (Nat.le_of_ble_eq_true rfl)) dX4_merge_116 ⟨Nat.le_of_ble_eq_true rfl, Nat.le_of_ble_eq_true rfl⟩) ?_
              have seg_850 : ∀ ls, lv_has ls 9 [(7, .int (b2i (bt (sW σ (sH σ a)) i))), (6, .int (nI i)), (5, .int (nI cc)), (4, .int (nI (sH σ b))), (3, .int (nI (sH σ a))), (0, .ref (μ 0)), (1, .int (nI a)), (2, .int (nI b))] → W p l e (headSpec wsX4_merge ({ frames := 2, cells := 0, slots := 0, locals := 46 } : Room)).room s m ([.ref (μ 0), .int (nI a), .int (nI b)] : List Value).toArray below meth c H2 locs2 0 0 (MQ below (kI (MPubQ D g b0 μ H (SpMerge σ (nI a) (nI b)))) ([.ref (μ 0), .int (nI a), .int (nI b)] : List Value).toArray s 0 0 (kF b0)) (F0 m 143 ls [.int (b2i ((((bt (sW σ (sH σ a)) i || bt (sW σ (sH σ b)) i) && !(obit σ (some cc) i)) || (bt (sW σ (sH σ a)) i && bt (sW σ (sH σ b)) i))))]) → W p l e (headSpec wsX4_merge ({ frames := 2, cells := 0, slots := 0, locals := 46 } : Room)).room s m ([.ref (μ 0), .int (nI a), .int (nI b)] : List Value).toArray below meth c H2 locs2 0 0 (MQ below (kI (MPubQ D g b0 μ H (SpMerge σ (nI a) (nI b)))) ([.ref (μ 0), .int (nI a), .int (nI b)] : List Value).toArray s 0 0 (kF b0)) (F0 m 119 ls [.int (b2i (bt (sW σ (sH σ b)) i)), .int (b2i (bt (sW σ (sH σ a)) i))]) := by
                intro ls hl hk
                refine z_icmp_ne (tgt := 127) hx hb dX4_merge_119 (by decide) (fun c_851 => ?_) (fun c_851 => ?_)
                · skip
                  refine lv_aload_n hx hb dX4_merge_127 rfl (lv_at hl 5 rfl) ?_
                  refine lv_iload hx hb dX4_merge_128 (lv_at hl 2 rfl) ?_
                  refine lv_iload hx hb dX4_merge_130 (lv_at hl 1 rfl) ?_
                  refine k_callX (va_runV (As := [.int (nI cc), .int (nI i)]) (rest := []) ⟨hx, hb, hml, hown, hts⟩ (c_X4_has l D g b0 H2 μ (sV σ) (sB σ) (nC) (va_up xs 7 h1) hM2 (by omega) (by omega) (by omega) ((some cc)) (i) (by omega) (obit σ (some cc) i) (hR2.has hoo (by omega))) (cwV 2 hts gX4_merge_X4_has rfl rfl rfl (by decide +kernel) ⟨Nat.le_of_ble_eq_true rfl, Nat.le_of_ble_eq_true rfl⟩) ⟨kPc_blind, k_recv hK hM2.o rfl, fun U hU hW => kPc_at hK hU hW⟩ rfl rfl hl.1 rfl (lv_room (Nat.le_of_ble_eq_true rfl)) dX4_merge_132 ⟨Nat.le_of_ble_eq_true rfl, Nat.le_of_ble_eq_true rfl⟩) ?_
                  refine z_if_ne (tgt := 142) hx hb dX4_merge_135 (by decide) (fun c_852 => ?_) (fun c_852 => ?_)
                  · skip
                    refine lv_iconst (v := b2i false) hx hb dX4_merge_142 (by decide +kernel) ?_
                    have e : ((((bt (sW σ (sH σ a)) i || bt (sW σ (sH σ b)) i) && !(obit σ (some cc) i)) || (bt (sW σ (sH σ a)) i && bt (sW σ (sH σ b)) i))) = false := by
                      revert c_851 c_852
                      cases (bt (sW σ (sH σ a)) i) <;> cases (bt (sW σ (sH σ b)) i) <;> cases (obit σ (some cc) i) <;> simp
                    rw [e] at hk
                    exact hk
                  · skip
                    refine lv_iconst (v := b2i true) hx hb dX4_merge_138 (by decide +kernel) ?_
                    refine lv_goto (tgt := 143) hx hb dX4_merge_139 (by decide) ?_
                    have e : ((((bt (sW σ (sH σ a)) i || bt (sW σ (sH σ b)) i) && !(obit σ (some cc) i)) || (bt (sW σ (sH σ a)) i && bt (sW σ (sH σ b)) i))) = true := by
                      revert c_851 c_852
                      cases (bt (sW σ (sH σ a)) i) <;> cases (bt (sW σ (sH σ b)) i) <;> cases (obit σ (some cc) i) <;> simp
                    rw [e] at hk
                    exact hk
                · skip
                  refine lv_iload hx hb dX4_merge_122 (lv_at hl 0 rfl) ?_
                  refine lv_goto (tgt := 143) hx hb dX4_merge_124 (by decide) ?_
                  have e : ((((bt (sW σ (sH σ a)) i || bt (sW σ (sH σ b)) i) && !(obit σ (some cc) i)) || (bt (sW σ (sH σ a)) i && bt (sW σ (sH σ b)) i))) = bt (sW σ (sH σ a)) i := by
                    revert c_851
                    cases (bt (sW σ (sH σ a)) i) <;> cases (bt (sW σ (sH σ b)) i) <;> cases (obit σ (some cc) i) <;> simp
                  rw [e] at hk
                  exact hk
              refine seg_850 ls hl ?_
              refine lv_istore (lv' := [(8, .int (b2i ((((bt (sW σ (sH σ a)) i || bt (sW σ (sH σ b)) i) && !(obit σ (some cc) i)) || (bt (sW σ (sH σ a)) i && bt (sW σ (sH σ b)) i))))), (7, .int (b2i (bt (sW σ (sH σ a)) i))), (6, .int (nI i)), (5, .int (nI cc)), (4, .int (nI (sH σ b))), (3, .int (nI (sH σ a))), (0, .ref (μ 0)), (1, .int (nI a)), (2, .int (nI b))]) hx hb dX4_merge_143 hl (by decide) rfl (fun ls hl => ?_)
              refine lv_aload_n hx hb dX4_merge_145 rfl (lv_at hl 6 rfl) ?_
              refine k_get (ci := 4) (C := RX4) (T := TX4) (N := 13) (v := .ref (μ 7)) hx hb hts (by decide +kernel) hown hK hM2.o rfl 8 (by decide) rfl (hts (.fieldLink RX4 31 RX4 "hand" "[B") (by decide +kernel)) rfl dX4_merge_146 ?_
              refine lv_iload hx hb dX4_merge_149 (lv_at hl 2 rfl) ?_
              refine lv_iload hx hb dX4_merge_151 (lv_at hl 0 rfl) ?_
              refine z_if_eq (tgt := 160) hx hb dX4_merge_153 (by decide) (fun c_853 => ?_) (fun c_853 => ?_)
              · skip
                refine lv_iconst (v := b2i false) hx hb dX4_merge_160 (by decide +kernel) ?_
                refine lv_i2b (v := b2i false) hx hb dX4_merge_161 (b2i_b _) ?_
                refine k_bast (y := b2i false) hx hb hK hM2.a7 hLB (hM2.ge (by omega)) (i) rfl (by omega) (by omega) (b2i_y _) dX4_merge_162 (fun H_854 locs_855 hw_856 hC_857 hLB_858 => ?_)
                have hM_859 := hM2.set (c := 7) (by omega) (by omega) (f := (upd ((va_up xs 7 h1) 7) (i) (b2i false))) hw_856 hC_857
                refine lv_iinc (v := nI (i + 1)) (lv' := [(6, .int (nI (i + 1))), (8, .int (b2i ((((bt (sW σ (sH σ a)) i || bt (sW σ (sH σ b)) i) && !(obit σ (some cc) i)) || (bt (sW σ (sH σ a)) i && bt (sW σ (sH σ b)) i))))), (7, .int (b2i (bt (sW σ (sH σ a)) i))), (5, .int (nI cc)), (4, .int (nI (sH σ b))), (3, .int (nI (sH σ a))), (0, .ref (μ 0)), (1, .int (nI a)), (2, .int (nI b))]) hx hb dX4_merge_163 hl (k := 2) rfl (nI_add (i) 1) (by decide) rfl (fun ls hl => ?_)
                refine lv_goto (tgt := 92) hx hb dX4_merge_166 (by decide) ?_
                have hM3 : MC D g b0 μ (sV σ) (sB σ) nC (va_up xs 7 (upd h1 i (b2i (pb i)))) H_854 := by
                  have q := hM_859
                  rw [up_eq, bx_uu] at q
                  rw [hpb i, c_853]
                  exact q
                refine ih (i + 1) H_854 locs_855 _ (by omega) (by omega) hM3 (hF.tr (MFr.chg (by omega) hC_857)) hLB_858 ?_ ls (lv_sub hl [0, 3, 4, 5, 6, 7, 8] rfl)
                intro t ht
                by_cases e : t = i
                · subst e; rw [pk_us]
                · rw [pk_un e]; exact hv t (by omega)
              · skip
                refine lv_iconst (v := b2i true) hx hb dX4_merge_156 (by decide +kernel) ?_
                refine lv_goto (tgt := 161) hx hb dX4_merge_157 (by decide) ?_
                refine lv_i2b (v := b2i true) hx hb dX4_merge_161 (b2i_b _) ?_
                refine k_bast (y := b2i true) hx hb hK hM2.a7 hLB (hM2.ge (by omega)) (i) rfl (by omega) (by omega) (b2i_y _) dX4_merge_162 (fun H_860 locs_861 hw_862 hC_863 hLB_864 => ?_)
                have hM_865 := hM2.set (c := 7) (by omega) (by omega) (f := (upd ((va_up xs 7 h1) 7) (i) (b2i true))) hw_862 hC_863
                refine lv_iinc (v := nI (i + 1)) (lv' := [(6, .int (nI (i + 1))), (8, .int (b2i ((((bt (sW σ (sH σ a)) i || bt (sW σ (sH σ b)) i) && !(obit σ (some cc) i)) || (bt (sW σ (sH σ a)) i && bt (sW σ (sH σ b)) i))))), (7, .int (b2i (bt (sW σ (sH σ a)) i))), (5, .int (nI cc)), (4, .int (nI (sH σ b))), (3, .int (nI (sH σ a))), (0, .ref (μ 0)), (1, .int (nI a)), (2, .int (nI b))]) hx hb dX4_merge_163 hl (k := 2) rfl (nI_add (i) 1) (by decide) rfl (fun ls hl => ?_)
                refine lv_goto (tgt := 92) hx hb dX4_merge_166 (by decide) ?_
                have hM3 : MC D g b0 μ (sV σ) (sB σ) nC (va_up xs 7 (upd h1 i (b2i (pb i)))) H_860 := by
                  have q := hM_865
                  rw [up_eq, bx_uu] at q
                  rw [hpb i, c_853]
                  exact q
                refine ih (i + 1) H_860 locs_861 _ (by omega) (by omega) hM3 (hF.tr (MFr.chg (by omega) hC_863)) hLB_864 ?_ ls (lv_sub hl [0, 3, 4, 5, 6, 7, 8] rfl)
                intro t ht
                by_cases e : t = i
                · subst e; rw [pk_us]
                · rw [pk_un e]; exact hv t (by omega)
        exact loop 4097 0 H1 locs1 (xs 7) (by omega) (by omega) (by rw [up_self]; exact hM1) hF1 hLB1 (fun t h => by omega) ls (lv_sub hl [0, 1, 2, 3, 4, 5, 6] rfl)
      · skip
        refine lv_bipush (v := (-4)) hx hb dX4_merge_86 (by decide +kernel) ?_
        have hS1 : ∀ r0 σ', SpMerge σ (nI a) (nI b) r0 σ' → r0 = -4 ∧ σ' = σ := by
          intro r0 σ' hS
          rcases hS.y hWF ha4 hb4 with ⟨z, -⟩ | ⟨-, z, -⟩ | ⟨-, -, ⟨-, z⟩ | ⟨z, -⟩⟩
          · rw [hw1] at z; cases z
          · rw [hv1] at z; cases z
          · exact z
          · omega
        exact r_iI hx hb hr hLB1 (Nat.le_refl _) (Nat.le_refl _) (fun r0 σ' hS => by
          obtain ⟨e1, e2⟩ := hS1 _ _ hS
          subst e2
          exact ⟨e1.symm, _, _, hM1, hR1, (hMK.keep rfl hx81), hF1⟩) dX4_merge_88 hlocks
    · skip
      refine lv_aload_n hx hb dX4_merge_55 rfl (lv_at hl 3 rfl) ?_
      refine lv_iconst (v := nI 0) hx hb dX4_merge_56 (by decide +kernel) ?_
      refine k_put (ci := 4) (T := TX4) (N := 13) (v := .int (nI 0)) hx hb hts (by decide +kernel) tyX4 tyX4_ok nmX4 hown hK hM1.o hLB1 (hM1.ge (by omega)) rfl 12 (by decide) rfl (hts (.fieldLink RX4 90 RX4 "conflicts" "I") (by decide +kernel)) rfl (ty := .int) (by decide +kernel) rfl rfl (Nat.le_of_ble_eq_true rfl) dX4_merge_57 (fun H_866 locs_867 ho_868 hC_869 hLB_870 => ?_)
      have hM_871 := hM1.num (nV' := sV σ) (nB' := sB σ) (nC' := 0) ho_868 hC_869
      refine lv_iload hx hb dX4_merge_60 (lv_at hl 0 rfl) ?_
      refine lv_iload_n hx hb dX4_merge_62 rfl (lv_at hl 2 rfl) ?_
      refine n_icmp_ne (tgt := 74) hx hb dX4_merge_63 (by decide) (by omega) (by omega) (fun c_872 => ?_) (fun c_872 => ?_)
      · skip
        refine lv_iconst (v := nI 0) hx hb dX4_merge_74 (by decide +kernel) ?_
        exact absurd c_840 c_872
      · skip
        refine lv_aload_n hx hb dX4_merge_66 rfl (lv_at hl 3 rfl) ?_
        refine k_get (ci := 4) (C := RX4) (T := TX4) (N := 13) (v := .ref (μ 4)) hx hb hts (by decide +kernel) hown hK hM_871.o rfl 4 (by decide) rfl (hts (.fieldLink RX4 21 RX4 "heads" "[I") (by decide +kernel)) rfl dX4_merge_67 ?_
        refine lv_iload_n hx hb dX4_merge_70 rfl (lv_at hl 4 rfl) ?_
        refine lv_iload hx hb dX4_merge_71 (lv_at hl 1 rfl) ?_
        refine k_iast hx hb hK hM_871.a4 hLB_870 (hM_871.ge (by omega)) (a) rfl (by omega) (by omega) dX4_merge_73 (fun H_873 locs_874 hw_875 hC_876 hLB_877 => ?_)
        have hM_878 := hM_871.set (c := 4) (by omega) (by omega) (f := (upd ((va_up (va_up x 5 m1) 6 m2) 4) (a) (nI (sH σ b)))) hw_875 hC_876
        refine lv_iconst (v := nI 0) hx hb dX4_merge_74 (by decide +kernel) ?_
        refine r_iI hx hb hr hLB_877 (Nat.le_refl _) (Nat.le_refl _) (fun r0 σ' hS => ?_) dX4_merge_75 hlocks
        have hw1 : sA σ (sH σ a) (sH σ b) = false := ts_nt (fun z => by have e := Option.some.inj (hoW.mpr z); omega)
        have hv1 : sA σ (sH σ b) (sH σ a) = true := hoV.mp (by rw [c_840])
        rcases hS.y hWF ha4 hb4 with ⟨z, -⟩ | ⟨-, -, hr0, m, hZ, hs⟩ | ⟨-, z, -⟩
        · rw [hw1] at z; cases z
        · subst hs
          have hR2 : MR (gHead (gM σ m) a (sH σ b)) (va_up (va_up (va_up x 5 m1) 6 m2) 4 (upd ((va_up (va_up x 5 m1) 6 m2) 4) (a) (nI (sH σ b)))) := MR.head (σ := gM σ m) hR1 (b := a) (v := sH σ b) hhb
          exact ⟨hr0.symm, 0, _, hM_878, hR2, MK.zero hZ rfl _, ((hF1.tr (MFr.chg (by omega) hC_869)).tr (MFr.chg (by omega) hC_876))⟩
        · rw [hv1] at z; cases z
theorem c_X4_merge (l : Launch) (D : va_G) (g : Nat → ClassId) (b0 : Nat) (H : Heap) (μ : Nat → Nat) (σ : SG) (nC : Nat) (x : Nat → Nat → Int32) (hM : MC D g b0 μ (sV σ) (sB σ) nC x H) (hR : MR σ x) (hMK : MK σ nC x) (ai bi : Int32) : Met l yX4_merge wsX4_merge ({ frames := 2, cells := 0, slots := 0, locals := 46 } : Room) (kPc D g [.ref (μ 0), .int ai, .int bi] H) (kI (MPubQ D g b0 μ H (SpMerge σ ai bi))) 0 0 (kF b0) := by
  rcases br_dec σ ai with h | ⟨a, ha4, rfl⟩
  · exact c_X4_merge_n1 l D g b0 H μ σ nC x hM hR hMK ai bi h
  · rcases br_dec σ bi with h | ⟨b, hb4, rfl⟩
    · exact c_X4_merge_n2 l D g b0 H μ σ nC x hM hR hMK a ha4 bi h
    · have hha := hR.1.2.2.2.2.1 a ha4
      rcases gc_dec σ (sH σ a) (sH σ b) with h | ⟨c, h⟩
      · exact c_X4_merge_y0 l D g b0 H μ σ nC x hM hR hMK a b ha4 hb4 (GCo.of0 hR.1 h)
      · exact c_X4_merge_y1 l D g b0 H μ σ nC x hM hR hMK a b ha4 hb4 c (GCo.of1 hR.1 hha h)

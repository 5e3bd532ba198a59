/-! 22: the reference: apply, revert, branch (laid by wip/gen/mod22.py) -/
set_option maxHeartbeats 4000000 in
set_option maxRecDepth 100000 in
theorem c_X4_isPatch_n (l : Launch) (D : va_G) (g : Nat → ClassId) (b0 : Nat) (H : Heap) (μ : Nat → Nat) (nV nB nC : Nat) (x : Nat → Nat → Int32) (hM : MC D g b0 μ nV nB nC x H) (hV4 : nV ≤ 400) (hB4 : nB ≤ 40) (hC4 : nC ≤ 64) (i : Int32) (h1 : ∀ k, k < nV → ¬ i = nI k) (h2 : ∀ k, k < nV → ¬ i = (-1) - nI k) : Met l yX4_isPatch wsX4_isPatch ({ frames := 1, cells := 0, slots := 0, locals := 21 } : Room) (kPc D g [.ref (μ 0), .int (i)] H) (kX (.int (b2i false)) H) 0 0 kN := by
  refine Met.ofW (cc := cX4_isPatch) (maxL := 2) (ret := (some .boolean)) (by decide) rfl ?_
  intro p e s m args below meth c s₁ B hml hv
  obtain ⟨rfl, hH, hK⟩ := hv
  have hx := B.exec
  have hb := B.bytes
  have hr := B.returns
  have hts := atoms_spec (ws := wsX4_isPatch) B.pre
  have hown : s.vm.findClass RX4 = some m.cls := findClass_of_methodNamed B.named
  have hlocks := B.notSynchronized
  rw [hH]
  have hl := lv_entry ([.ref (μ 0), .int (i)]) (n := 2) (Nat.le_of_ble_eq_true rfl)
  rw [lg_entry_eq]
  generalize (lg_sl ([.ref (μ 0), .int (i)]) ++ List.replicate (2 - (lg_sl ([.ref (μ 0), .int (i)])).length) Slot.unset).toArray = ls at hl ⊢
  have hl : lv_has ls 2 [(0, .ref (μ 0)), (1, .int (i))] := hl
  refine lv_aload_n hx hb dX4_isPatch_0 rfl (lv_at hl 0 rfl) ?_
  refine lv_iload_n hx hb dX4_isPatch_1 rfl (lv_at hl 1 rfl) ?_
  refine lv_if_ge (tgt := 11) hx hb dX4_isPatch_2 (by decide) (fun c_879 => ?_) (fun c_879 => ?_)
  · skip
    refine lv_iload_n hx hb dX4_isPatch_11 rfl (lv_at hl 1 rfl) ?_
    refine k_callX (va_runV (As := [.int (i)]) (rest := []) ⟨hx, hb, hml, hown, hts⟩ (c_X4_isVersion_n l D g b0 H μ nV nB nC x hM hV4 hB4 hC4 (i) h1) (cwV 1 hts gX4_isPatch_X4_isVersion rfl rfl rfl (by decide +kernel) ⟨Nat.le_of_ble_eq_true rfl, Nat.le_of_ble_eq_true rfl⟩) ⟨kPc_blind, k_recv hK hM.o rfl, fun U hU hW => kPc_at hK hU hW⟩ rfl rfl hl.1 rfl (lv_room (Nat.le_of_ble_eq_true rfl)) dX4_isPatch_12 ⟨Nat.le_of_ble_eq_true rfl, Nat.le_of_ble_eq_true rfl⟩) ?_
    exact r_zX hx hb hr (rfl) dX4_isPatch_15 hlocks
  · skip
    refine lv_iconst (v := (-1)) hx hb dX4_isPatch_5 (by decide +kernel) ?_
    refine lv_iload_n hx hb dX4_isPatch_6 rfl (lv_at hl 1 rfl) ?_
    refine lv_isub hx hb dX4_isPatch_7 ?_
    refine lv_goto (tgt := 12) hx hb dX4_isPatch_8 (by decide) ?_
    refine k_callX (va_runV (As := [.int (((-1)) - (i))]) (rest := []) ⟨hx, hb, hml, hown, hts⟩ (c_X4_isVersion_n l D g b0 H μ nV nB nC x hM hV4 hB4 hC4 (((-1)) - (i)) (fun k hk e => h2 k hk (by rw [← e, neg_neg1]))) (cwV 1 hts gX4_isPatch_X4_isVersion rfl rfl rfl (by decide +kernel) ⟨Nat.le_of_ble_eq_true rfl, Nat.le_of_ble_eq_true rfl⟩) ⟨kPc_blind, k_recv hK hM.o rfl, fun U hU hW => kPc_at hK hU hW⟩ rfl rfl hl.1 rfl (lv_room (Nat.le_of_ble_eq_true rfl)) dX4_isPatch_12 ⟨Nat.le_of_ble_eq_true rfl, Nat.le_of_ble_eq_true rfl⟩) ?_
    exact r_zX hx hb hr (rfl) dX4_isPatch_15 hlocks
set_option maxHeartbeats 4000000 in
set_option maxRecDepth 100000 in
theorem c_X4_isPatch_0 (l : Launch) (D : va_G) (g : Nat → ClassId) (b0 : Nat) (H : Heap) (μ : Nat → Nat) (nV nB nC : Nat) (x : Nat → Nat → Int32) (hM : MC D g b0 μ nV nB nC x H) (hV4 : nV ≤ 400) (hB4 : nB ≤ 40) (hC4 : nC ≤ 64) (k : Nat) (hk : k < nV) : Met l yX4_isPatch wsX4_isPatch ({ frames := 1, cells := 0, slots := 0, locals := 21 } : Room) (kPc D g [.ref (μ 0), .int (nI k)] H) (kX (.int (b2i true)) H) 0 0 kN := by
  refine Met.ofW (cc := cX4_isPatch) (maxL := 2) (ret := (some .boolean)) (by decide) rfl ?_
  intro p e s m args below meth c s₁ B hml hv
  obtain ⟨rfl, hH, hK⟩ := hv
  have hx := B.exec
  have hb := B.bytes
  have hr := B.returns
  have hts := atoms_spec (ws := wsX4_isPatch) B.pre
  have hown : s.vm.findClass RX4 = some m.cls := findClass_of_methodNamed B.named
  have hlocks := B.notSynchronized
  rw [hH]
  have hl := lv_entry ([.ref (μ 0), .int (nI k)]) (n := 2) (Nat.le_of_ble_eq_true rfl)
  rw [lg_entry_eq]
  generalize (lg_sl ([.ref (μ 0), .int (nI k)]) ++ List.replicate (2 - (lg_sl ([.ref (μ 0), .int (nI k)])).length) Slot.unset).toArray = ls at hl ⊢
  have hl : lv_has ls 2 [(0, .ref (μ 0)), (1, .int (nI k))] := hl
  refine lv_aload_n hx hb dX4_isPatch_0 rfl (lv_at hl 0 rfl) ?_
  refine lv_iload_n hx hb dX4_isPatch_1 rfl (lv_at hl 1 rfl) ?_
  refine n_if_ge (tgt := 11) hx hb dX4_isPatch_2 (by decide) (by omega) ?_
  refine lv_iload_n hx hb dX4_isPatch_11 rfl (lv_at hl 1 rfl) ?_
  refine k_callX (va_runV (As := [.int (nI k)]) (rest := []) ⟨hx, hb, hml, hown, hts⟩ (c_X4_isVersion_y l D g b0 H μ nV nB nC x hM hV4 hB4 hC4 k hk) (cwV 1 hts gX4_isPatch_X4_isVersion rfl rfl rfl (by decide +kernel) ⟨Nat.le_of_ble_eq_true rfl, Nat.le_of_ble_eq_true rfl⟩) ⟨kPc_blind, k_recv hK hM.o rfl, fun U hU hW => kPc_at hK hU hW⟩ rfl rfl hl.1 rfl (lv_room (Nat.le_of_ble_eq_true rfl)) dX4_isPatch_12 ⟨Nat.le_of_ble_eq_true rfl, Nat.le_of_ble_eq_true rfl⟩) ?_
  exact r_zX hx hb hr (rfl) dX4_isPatch_15 hlocks
set_option maxHeartbeats 4000000 in
set_option maxRecDepth 100000 in
theorem c_X4_isPatch_1 (l : Launch) (D : va_G) (g : Nat → ClassId) (b0 : Nat) (H : Heap) (μ : Nat → Nat) (nV nB nC : Nat) (x : Nat → Nat → Int32) (hM : MC D g b0 μ nV nB nC x H) (hV4 : nV ≤ 400) (hB4 : nB ≤ 40) (hC4 : nC ≤ 64) (k : Nat) (hk : k < nV) : Met l yX4_isPatch wsX4_isPatch ({ frames := 1, cells := 0, slots := 0, locals := 21 } : Room) (kPc D g [.ref (μ 0), .int ((-1) - nI k)] H) (kX (.int (b2i true)) H) 0 0 kN := by
  refine Met.ofW (cc := cX4_isPatch) (maxL := 2) (ret := (some .boolean)) (by decide) rfl ?_
  intro p e s m args below meth c s₁ B hml hv
  obtain ⟨rfl, hH, hK⟩ := hv
  have hx := B.exec
  have hb := B.bytes
  have hr := B.returns
  have hts := atoms_spec (ws := wsX4_isPatch) B.pre
  have hown : s.vm.findClass RX4 = some m.cls := findClass_of_methodNamed B.named
  have hlocks := B.notSynchronized
  rw [hH]
  have hl := lv_entry ([.ref (μ 0), .int ((-1) - nI k)]) (n := 2) (Nat.le_of_ble_eq_true rfl)
  rw [lg_entry_eq]
  generalize (lg_sl ([.ref (μ 0), .int ((-1) - nI k)]) ++ List.replicate (2 - (lg_sl ([.ref (μ 0), .int ((-1) - nI k)])).length) Slot.unset).toArray = ls at hl ⊢
  have hl : lv_has ls 2 [(0, .ref (μ 0)), (1, .int ((-1) - nI k))] := hl
  refine lv_aload_n hx hb dX4_isPatch_0 rfl (lv_at hl 0 rfl) ?_
  refine lv_iload_n hx hb dX4_isPatch_1 rfl (lv_at hl 1 rfl) ?_
  refine lv_if_ge (tgt := 11) hx hb dX4_isPatch_2 (by decide) (fun q => absurd (neg_lt (k := k) (by omega)) (Int32.not_lt.mpr q)) (fun _ => ?_)
  refine lv_iconst (v := (-1)) hx hb dX4_isPatch_5 (by decide +kernel) ?_
  refine lv_iload_n hx hb dX4_isPatch_6 rfl (lv_at hl 1 rfl) ?_
  refine lv_isub hx hb dX4_isPatch_7 ?_
  rw [neg_neg1]
  refine lv_goto (tgt := 12) hx hb dX4_isPatch_8 (by decide) ?_
  refine k_callX (va_runV (As := [.int (nI k)]) (rest := []) ⟨hx, hb, hml, hown, hts⟩ (c_X4_isVersion_y l D g b0 H μ nV nB nC x hM hV4 hB4 hC4 k hk) (cwV 1 hts gX4_isPatch_X4_isVersion rfl rfl rfl (by decide +kernel) ⟨Nat.le_of_ble_eq_true rfl, Nat.le_of_ble_eq_true rfl⟩) ⟨kPc_blind, k_recv hK hM.o rfl, fun U hU hW => kPc_at hK hU hW⟩ rfl rfl hl.1 rfl (lv_room (Nat.le_of_ble_eq_true rfl)) dX4_isPatch_12 ⟨Nat.le_of_ble_eq_true rfl, Nat.le_of_ble_eq_true rfl⟩) ?_
  exact r_zX hx hb hr (rfl) dX4_isPatch_15 hlocks
set_option maxHeartbeats 4000000 in
set_option maxRecDepth 100000 in
/-- laid_0 -/
theorem c_X4_laid_0 (l : Launch) (D : va_G) (g : Nat → ClassId) (b0 : Nat) (H : Heap) (μ : Nat → Nat) (σ : SG) (nC : Nat) (x : Nat → Nat → Int32) (hM : MC D g b0 μ (sV σ) (sB σ) nC x H) (hR : MR σ x) (hMK : MK σ nC x) (b n : Nat) (hb4 : b < sB σ) (hn : n < sV σ) : Met l yX4_laid wsX4_laid ({ frames := 2, cells := 0, slots := 0, locals := 53 } : Room) (kPc D g [.ref (μ 0), .int (nI b), .int (nI n)] H) (kI (MPubS D g b0 μ H σ (SpLay σ b (befW σ n) (sW σ n)))) 0 0 (kF b0) := by
  refine Met.ofW (cc := cX4_laid) (maxL := 3) (ret := (some .int)) (by decide) rfl ?_
  intro p e s m args below meth c s₁ B hml hv
  obtain ⟨rfl, hH, hK⟩ := hv
  have hx := B.exec
  have hb := B.bytes
  have hr := B.returns
  have hts := atoms_spec (ws := wsX4_laid) B.pre
  have hown : s.vm.findClass RX4 = some m.cls := findClass_of_methodNamed B.named
  have hlocks := B.notSynchronized
  rw [hH]
  have hl := lv_entry ([.ref (μ 0), .int (nI b), .int (nI n)]) (n := 3) (Nat.le_of_ble_eq_true rfl)
  rw [lg_entry_eq]
  generalize (lg_sl ([.ref (μ 0), .int (nI b), .int (nI n)]) ++ List.replicate (3 - (lg_sl ([.ref (μ 0), .int (nI b), .int (nI n)])).length) Slot.unset).toArray = ls at hl ⊢
  have hl : lv_has ls 3 [(0, .ref (μ 0)), (1, .int (nI b)), (2, .int (nI n))] := hl
  have hWF := hR.1
  have hV4 : sV σ ≤ 400 := hWF.2.1
  have hB4 : sB σ ≤ 40 := hWF.2.2.2.1
  have hC4 : nC ≤ 64 := hMK.le
  have hhd := hWF.2.2.2.2.1 b hb4
  refine lv_aload_n hx hb dX4_laid_0 rfl (lv_at hl 0 rfl) ?_
  refine lv_aload_n hx hb dX4_laid_1 rfl (lv_at hl 0 rfl) ?_
  refine k_get (ci := 4) (C := RX4) (T := TX4) (N := 13) (v := .ref (μ 4)) hx hb hts (by decide +kernel) hown hK hM.o rfl 4 (by decide) rfl (hts (.fieldLink RX4 21 RX4 "heads" "[I") (by decide +kernel)) rfl dX4_laid_2 ?_
  refine lv_iload_n hx hb dX4_laid_5 rfl (lv_at hl 1 rfl) ?_
  refine k_iald hx hb hK hM.a4 (b) rfl (by omega) (by omega) dX4_laid_6 ?_
  rw [show x 4 (b) = nI (sH σ b) from (hR.2.2.2.2 b hb4)]
  refine lv_iload_n hx hb dX4_laid_7 rfl (lv_at hl 2 rfl) ?_
  refine k_callI (va_runV (As := [.int (nI (sH σ b)), .int (nI n)]) (rest := []) ⟨hx, hb, hml, hown, hts⟩ (c_X4_lay_0 l D g b0 H μ σ nC x hM hR hC4 (sH σ b) n hhd hn) (cwV 2 hts gX4_laid_X4_lay rfl rfl rfl (by decide +kernel) ⟨Nat.le_of_ble_eq_true rfl, Nat.le_of_ble_eq_true rfl⟩) ⟨kPc_blind, k_recv hK hM.o rfl, fun U hU hW => kPc_at hK hU hW⟩ rfl rfl hl.1 rfl (lv_room (Nat.le_of_ble_eq_true rfl)) dX4_laid_8 ⟨Nat.le_of_ble_eq_true rfl, Nat.le_of_ble_eq_true rfl⟩) LB.nil (fun rk H1 locs1 hLB1 hq1 => ?_)
  obtain ⟨ok, h1, rfl, hM1, hF1, hh1, hok⟩ := hq1
  have href : ∀ r0 σ', SpLay σ b (befW σ n) (sW σ n) r0 σ' → _ := fun r0 σ' hS => SpLay.ref hWF (F := (obit σ (sF σ n))) (T := (bt (sW σ n))) (fun t ht => befW_bit σ n ht) (fun t ht => rfl) hok hS
  refine z_if_ne (tgt := 16) hx hb dX4_laid_11 (by decide) (fun c_881 => ?_) (fun c_881 => ?_)
  · skip
    refine lv_aload_n hx hb dX4_laid_16 rfl (lv_at hl 0 rfl) ?_
    refine k_get (ci := 4) (C := RX4) (T := TX4) (N := 13) (v := .int (nI (sV σ))) hx hb hts (by decide +kernel) hown hK hM1.o rfl 3 (by decide) rfl (hts (.fieldLink RX4 43 RX4 "versions" "I") (by decide +kernel)) rfl dX4_laid_17 ?_
    refine lv_sipush (v := nI 400) hx hb dX4_laid_20 (by decide +kernel) ?_
    refine n_icmp_ne (tgt := 29) hx hb dX4_laid_23 (by decide) (by omega) (by omega) (fun c_882 => ?_) (fun c_882 => ?_)
    · skip
      refine lv_aload_n hx hb dX4_laid_29 rfl (lv_at hl 0 rfl) ?_
      refine lv_iload_n hx hb dX4_laid_30 rfl (lv_at hl 1 rfl) ?_
      have hV : sV σ < 400 := by omega
      obtain ⟨xs, hxs⟩ : ∃ xs, xs = (va_up x 7 h1) := ⟨_, rfl⟩
      have hMs : MC D g b0 μ (sV σ) (sB σ) nC xs H1 := by rw [hxs]; exact hM1
      have hRs : MR σ xs := by rw [hxs]; exact hR.up (by omega) _
      have hxs8 : ∀ c, 8 ≤ c → xs c = x c := fun c hc => by rw [hxs]; exact up_ne _ _ (by omega)
      have hxs7 : ∀ u, u < 4096 → xs 7 u = b2i ((fun t => (((bt (sW σ n)) t && !((obit σ (sF σ n)) t)) || (bt (sW σ (sH σ b)) t && !((obit σ (sF σ n)) t && !((bt (sW σ n)) t))))) u) := by
        intro u hu
        rw [hxs]
        rw [up_eq]; exact hh1 u hu
      refine k_callI (va_runV (As := [.int (nI b)]) (rest := []) ⟨hx, hb, hml, hown, hts⟩ (c_X4_step l D g b0 H1 μ σ nC xs hMs hRs hC4 b hb4 hV (fun t => (((bt (sW σ n)) t && !((obit σ (sF σ n)) t)) || (bt (sW σ (sH σ b)) t && !((obit σ (sF σ n)) t && !((bt (sW σ n)) t))))) hxs7) (cwV 1 hts gX4_laid_X4_step rfl rfl rfl (by decide +kernel) ⟨Nat.le_of_ble_eq_true rfl, Nat.le_of_ble_eq_true rfl⟩) ⟨kPc_blind, k_recv hK hMs.o rfl, fun U hU hW => kPc_at hK hU hW⟩ rfl rfl hl.1 rfl (lv_room (Nat.le_of_ble_eq_true rfl)) dX4_laid_31 ⟨Nat.le_of_ble_eq_true rfl, Nat.le_of_ble_eq_true rfl⟩) hLB1 (fun ra Hz locsz hLBz hqz => ?_)
      obtain ⟨hra, xz, hMz, hFz, hxz, hRz⟩ := hqz
      refine lv_pop hx hb dX4_laid_34 rfl ?_
      refine lv_iconst (v := nI 1) hx hb dX4_laid_35 (by decide +kernel) ?_
      refine r_iI hx hb hr hLBz (Nat.le_refl _) (Nat.le_refl _) (fun r0 σ' hS => ?_) dX4_laid_36 hlocks
      rcases href r0 σ' hS with ⟨z, -⟩ | ⟨-, z, -⟩ | ⟨-, -, hr0, w, an, hs, han, hw⟩
      · rw [c_881] at z; cases z
      · omega
      · subst hs
        exact ⟨fun _ => hr0.symm, nC, xz, hMz, hRz w an han hw, hMK.keep rfl (fun c hc => (hxz c hc).trans (hxs8 c hc)), hF1.tr hFz⟩
    · skip
      refine lv_bipush (v := (-4)) hx hb dX4_laid_26 (by decide +kernel) ?_
      refine r_iI hx hb hr hLB1 (Nat.le_refl _) (Nat.le_refl _) (fun r0 σ' hS => ?_) dX4_laid_28 hlocks
      rcases href r0 σ' hS with ⟨z, -⟩ | ⟨-, -, hr0, hs⟩ | ⟨-, z, -⟩
      · rw [c_881] at z; cases z
      · subst hs
        exact ⟨fun z => by omega, _, _, hM1, hR.up (by omega) _, hMK.keep rfl (fun c hc => up_ne _ _ (by omega)), hF1⟩
      · omega
  · skip
    refine lv_iconst (v := nI 0) hx hb dX4_laid_14 (by decide +kernel) ?_
    refine r_iI hx hb hr hLB1 (Nat.le_refl _) (Nat.le_refl _) (fun r0 σ' hS => ?_) dX4_laid_15 hlocks
    rcases href r0 σ' hS with ⟨-, hs, hr0⟩ | ⟨z, -⟩ | ⟨z, -⟩
    · subst hs
      exact ⟨fun z => (hr0 z).symm, _, _, hM1, hR.up (by omega) _, hMK.keep rfl (fun c hc => up_ne _ _ (by omega)), hF1⟩
    · rw [c_881] at z; cases z
    · rw [c_881] at z; cases z
set_option maxHeartbeats 4000000 in
set_option maxRecDepth 100000 in
/-- laid_1 -/
theorem c_X4_laid_1 (l : Launch) (D : va_G) (g : Nat → ClassId) (b0 : Nat) (H : Heap) (μ : Nat → Nat) (σ : SG) (nC : Nat) (x : Nat → Nat → Int32) (hM : MC D g b0 μ (sV σ) (sB σ) nC x H) (hR : MR σ x) (hMK : MK σ nC x) (b n : Nat) (hb4 : b < sB σ) (hn : n < sV σ) : Met l yX4_laid wsX4_laid ({ frames := 2, cells := 0, slots := 0, locals := 53 } : Room) (kPc D g [.ref (μ 0), .int (nI b), .int ((-1) - nI n)] H) (kI (MPubS D g b0 μ H σ (SpLay σ b (sW σ n) (befW σ n)))) 0 0 (kF b0) := by
  refine Met.ofW (cc := cX4_laid) (maxL := 3) (ret := (some .int)) (by decide) rfl ?_
  intro p e s m args below meth c s₁ B hml hv
  obtain ⟨rfl, hH, hK⟩ := hv
  have hx := B.exec
  have hb := B.bytes
  have hr := B.returns
  have hts := atoms_spec (ws := wsX4_laid) B.pre
  have hown : s.vm.findClass RX4 = some m.cls := findClass_of_methodNamed B.named
  have hlocks := B.notSynchronized
  rw [hH]
  have hl := lv_entry ([.ref (μ 0), .int (nI b), .int ((-1) - nI n)]) (n := 3) (Nat.le_of_ble_eq_true rfl)
  rw [lg_entry_eq]
  generalize (lg_sl ([.ref (μ 0), .int (nI b), .int ((-1) - nI n)]) ++ List.replicate (3 - (lg_sl ([.ref (μ 0), .int (nI b), .int ((-1) - nI n)])).length) Slot.unset).toArray = ls at hl ⊢
  have hl : lv_has ls 3 [(0, .ref (μ 0)), (1, .int (nI b)), (2, .int ((-1) - nI n))] := hl
  have hWF := hR.1
  have hV4 : sV σ ≤ 400 := hWF.2.1
  have hB4 : sB σ ≤ 40 := hWF.2.2.2.1
  have hC4 : nC ≤ 64 := hMK.le
  have hhd := hWF.2.2.2.2.1 b hb4
  refine lv_aload_n hx hb dX4_laid_0 rfl (lv_at hl 0 rfl) ?_
  refine lv_aload_n hx hb dX4_laid_1 rfl (lv_at hl 0 rfl) ?_
  refine k_get (ci := 4) (C := RX4) (T := TX4) (N := 13) (v := .ref (μ 4)) hx hb hts (by decide +kernel) hown hK hM.o rfl 4 (by decide) rfl (hts (.fieldLink RX4 21 RX4 "heads" "[I") (by decide +kernel)) rfl dX4_laid_2 ?_
  refine lv_iload_n hx hb dX4_laid_5 rfl (lv_at hl 1 rfl) ?_
  refine k_iald hx hb hK hM.a4 (b) rfl (by omega) (by omega) dX4_laid_6 ?_
  rw [show x 4 (b) = nI (sH σ b) from (hR.2.2.2.2 b hb4)]
  refine lv_iload_n hx hb dX4_laid_7 rfl (lv_at hl 2 rfl) ?_
  refine k_callI (va_runV (As := [.int (nI (sH σ b)), .int ((-1) - nI n)]) (rest := []) ⟨hx, hb, hml, hown, hts⟩ (c_X4_lay_1 l D g b0 H μ σ nC x hM hR hC4 (sH σ b) n hhd hn) (cwV 2 hts gX4_laid_X4_lay rfl rfl rfl (by decide +kernel) ⟨Nat.le_of_ble_eq_true rfl, Nat.le_of_ble_eq_true rfl⟩) ⟨kPc_blind, k_recv hK hM.o rfl, fun U hU hW => kPc_at hK hU hW⟩ rfl rfl hl.1 rfl (lv_room (Nat.le_of_ble_eq_true rfl)) dX4_laid_8 ⟨Nat.le_of_ble_eq_true rfl, Nat.le_of_ble_eq_true rfl⟩) LB.nil (fun rk H1 locs1 hLB1 hq1 => ?_)
  obtain ⟨ok, h1, rfl, hM1, hF1, hh1, hok⟩ := hq1
  have href : ∀ r0 σ', SpLay σ b (sW σ n) (befW σ n) r0 σ' → _ := fun r0 σ' hS => SpLay.ref hWF (F := (bt (sW σ n))) (T := (obit σ (sF σ n))) (fun t ht => rfl) (fun t ht => befW_bit σ n ht) hok hS
  refine z_if_ne (tgt := 16) hx hb dX4_laid_11 (by decide) (fun c_883 => ?_) (fun c_883 => ?_)
  · skip
    refine lv_aload_n hx hb dX4_laid_16 rfl (lv_at hl 0 rfl) ?_
    refine k_get (ci := 4) (C := RX4) (T := TX4) (N := 13) (v := .int (nI (sV σ))) hx hb hts (by decide +kernel) hown hK hM1.o rfl 3 (by decide) rfl (hts (.fieldLink RX4 43 RX4 "versions" "I") (by decide +kernel)) rfl dX4_laid_17 ?_
    refine lv_sipush (v := nI 400) hx hb dX4_laid_20 (by decide +kernel) ?_
    refine n_icmp_ne (tgt := 29) hx hb dX4_laid_23 (by decide) (by omega) (by omega) (fun c_884 => ?_) (fun c_884 => ?_)
    · skip
      refine lv_aload_n hx hb dX4_laid_29 rfl (lv_at hl 0 rfl) ?_
      refine lv_iload_n hx hb dX4_laid_30 rfl (lv_at hl 1 rfl) ?_
      have hV : sV σ < 400 := by omega
      obtain ⟨xs, hxs⟩ : ∃ xs, xs = (va_up x 7 h1) := ⟨_, rfl⟩
      have hMs : MC D g b0 μ (sV σ) (sB σ) nC xs H1 := by rw [hxs]; exact hM1
      have hRs : MR σ xs := by rw [hxs]; exact hR.up (by omega) _
      have hxs8 : ∀ c, 8 ≤ c → xs c = x c := fun c hc => by rw [hxs]; exact up_ne _ _ (by omega)
      have hxs7 : ∀ u, u < 4096 → xs 7 u = b2i ((fun t => (((obit σ (sF σ n)) t && !((bt (sW σ n)) t)) || (bt (sW σ (sH σ b)) t && !((bt (sW σ n)) t && !((obit σ (sF σ n)) t))))) u) := by
        intro u hu
        rw [hxs]
        rw [up_eq]; exact hh1 u hu
      refine k_callI (va_runV (As := [.int (nI b)]) (rest := []) ⟨hx, hb, hml, hown, hts⟩ (c_X4_step l D g b0 H1 μ σ nC xs hMs hRs hC4 b hb4 hV (fun t => (((obit σ (sF σ n)) t && !((bt (sW σ n)) t)) || (bt (sW σ (sH σ b)) t && !((bt (sW σ n)) t && !((obit σ (sF σ n)) t))))) hxs7) (cwV 1 hts gX4_laid_X4_step rfl rfl rfl (by decide +kernel) ⟨Nat.le_of_ble_eq_true rfl, Nat.le_of_ble_eq_true rfl⟩) ⟨kPc_blind, k_recv hK hMs.o rfl, fun U hU hW => kPc_at hK hU hW⟩ rfl rfl hl.1 rfl (lv_room (Nat.le_of_ble_eq_true rfl)) dX4_laid_31 ⟨Nat.le_of_ble_eq_true rfl, Nat.le_of_ble_eq_true rfl⟩) hLB1 (fun ra Hz locsz hLBz hqz => ?_)
      obtain ⟨hra, xz, hMz, hFz, hxz, hRz⟩ := hqz
      refine lv_pop hx hb dX4_laid_34 rfl ?_
      refine lv_iconst (v := nI 1) hx hb dX4_laid_35 (by decide +kernel) ?_
      refine r_iI hx hb hr hLBz (Nat.le_refl _) (Nat.le_refl _) (fun r0 σ' hS => ?_) dX4_laid_36 hlocks
      rcases href r0 σ' hS with ⟨z, -⟩ | ⟨-, z, -⟩ | ⟨-, -, hr0, w, an, hs, han, hw⟩
      · rw [c_883] at z; cases z
      · omega
      · subst hs
        exact ⟨fun _ => hr0.symm, nC, xz, hMz, hRz w an han hw, hMK.keep rfl (fun c hc => (hxz c hc).trans (hxs8 c hc)), hF1.tr hFz⟩
    · skip
      refine lv_bipush (v := (-4)) hx hb dX4_laid_26 (by decide +kernel) ?_
      refine r_iI hx hb hr hLB1 (Nat.le_refl _) (Nat.le_refl _) (fun r0 σ' hS => ?_) dX4_laid_28 hlocks
      rcases href r0 σ' hS with ⟨z, -⟩ | ⟨-, -, hr0, hs⟩ | ⟨-, z, -⟩
      · rw [c_883] at z; cases z
      · subst hs
        exact ⟨fun z => by omega, _, _, hM1, hR.up (by omega) _, hMK.keep rfl (fun c hc => up_ne _ _ (by omega)), hF1⟩
      · omega
  · skip
    refine lv_iconst (v := nI 0) hx hb dX4_laid_14 (by decide +kernel) ?_
    refine r_iI hx hb hr hLB1 (Nat.le_refl _) (Nat.le_refl _) (fun r0 σ' hS => ?_) dX4_laid_15 hlocks
    rcases href r0 σ' hS with ⟨-, hs, hr0⟩ | ⟨z, -⟩ | ⟨z, -⟩
    · subst hs
      exact ⟨fun z => (hr0 z).symm, _, _, hM1, hR.up (by omega) _, hMK.keep rfl (fun c hc => up_ne _ _ (by omega)), hF1⟩
    · rw [c_883] at z; cases z
    · rw [c_883] at z; cases z
set_option maxHeartbeats 4000000 in
set_option maxRecDepth 100000 in
/-- apply_n1 -/
theorem c_X4_apply_n1 (l : Launch) (D : va_G) (g : Nat → ClassId) (b0 : Nat) (H : Heap) (μ : Nat → Nat) (σ : SG) (nC : Nat) (x : Nat → Nat → Int32) (hM : MC D g b0 μ (sV σ) (sB σ) nC x H) (hR : MR σ x) (hMK : MK σ nC x) (bi pi : Int32) (hN : BrN σ bi) : Met l yX4_apply wsX4_apply ({ frames := 3, cells := 0, slots := 0, locals := 75 } : Room) (kPc D g [.ref (μ 0), .int (bi), .int (pi)] H) (kI (MPubS D g b0 μ H σ (SpApply σ bi pi))) 0 0 (kF b0) := by
  refine Met.ofW (cc := cX4_apply) (maxL := 3) (ret := (some .int)) (by decide) rfl ?_
  intro p e s m args below meth c s₁ B hml hv
  obtain ⟨rfl, hH, hK⟩ := hv
  have hx := B.exec
  have hb := B.bytes
  have hr := B.returns
  have hts := atoms_spec (ws := wsX4_apply) B.pre
  have hown : s.vm.findClass RX4 = some m.cls := findClass_of_methodNamed B.named
  have hlocks := B.notSynchronized
  rw [hH]
  have hl := lv_entry ([.ref (μ 0), .int (bi), .int (pi)]) (n := 3) (Nat.le_of_ble_eq_true rfl)
  rw [lg_entry_eq]
  generalize (lg_sl ([.ref (μ 0), .int (bi), .int (pi)]) ++ List.replicate (3 - (lg_sl ([.ref (μ 0), .int (bi), .int (pi)])).length) Slot.unset).toArray = ls at hl ⊢
  have hl : lv_has ls 3 [(0, .ref (μ 0)), (1, .int (bi)), (2, .int (pi))] := hl
  have hWF := hR.1
  have hV4 : sV σ ≤ 400 := hWF.2.1
  have hB4 : sB σ ≤ 40 := hWF.2.2.2.1
  have hC4 : nC ≤ 64 := hMK.le
  refine lv_aload_n hx hb dX4_apply_0 rfl (lv_at hl 0 rfl) ?_
  refine lv_iload_n hx hb dX4_apply_1 rfl (lv_at hl 1 rfl) ?_
  refine k_callX (va_runV (As := [.int (bi)]) (rest := []) ⟨hx, hb, hml, hown, hts⟩ (c_X4_isBranch_n l D g b0 H μ (sV σ) (sB σ) nC x hM hV4 hB4 hC4 bi hN) (cwV 1 hts gX4_apply_X4_isBranch rfl rfl rfl (by decide +kernel) ⟨Nat.le_of_ble_eq_true rfl, Nat.le_of_ble_eq_true rfl⟩) ⟨kPc_blind, k_recv hK hM.o rfl, fun U hU hW => kPc_at hK hU hW⟩ rfl rfl hl.1 rfl (lv_room (Nat.le_of_ble_eq_true rfl)) dX4_apply_2 ⟨Nat.le_of_ble_eq_true rfl, Nat.le_of_ble_eq_true rfl⟩) ?_
  refine z_if_eq (tgt := 25) hx hb dX4_apply_5 (by decide) (fun _ => ?_) (fun h => by cases h)
  refine lv_iconst (v := (-1)) hx hb dX4_apply_25 (by decide +kernel) ?_
  exact r_iI hx hb hr LB.nil (Nat.le_refl _) (Nat.le_refl _) (MPubS.of (fun r0 σ' hS => by
    obtain ⟨e1, e2⟩ := SpApply.n hWF (Or.inl hN) hS
    subst e2
    exact ⟨e1.symm, _, _, hM, hR, hMK, MFr.rf⟩)) dX4_apply_26 hlocks
set_option maxHeartbeats 4000000 in
set_option maxRecDepth 100000 in
/-- apply_n2 -/
theorem c_X4_apply_n2 (l : Launch) (D : va_G) (g : Nat → ClassId) (b0 : Nat) (H : Heap) (μ : Nat → Nat) (σ : SG) (nC : Nat) (x : Nat → Nat → Int32) (hM : MC D g b0 μ (sV σ) (sB σ) nC x H) (hR : MR σ x) (hMK : MK σ nC x) (b : Nat) (hb4 : b < sB σ) (pi : Int32) (hN : PaN σ pi) : Met l yX4_apply wsX4_apply ({ frames := 3, cells := 0, slots := 0, locals := 75 } : Room) (kPc D g [.ref (μ 0), .int (nI b), .int (pi)] H) (kI (MPubS D g b0 μ H σ (SpApply σ (nI b) pi))) 0 0 (kF b0) := by
  refine Met.ofW (cc := cX4_apply) (maxL := 3) (ret := (some .int)) (by decide) rfl ?_
  intro p e s m args below meth c s₁ B hml hv
  obtain ⟨rfl, hH, hK⟩ := hv
  have hx := B.exec
  have hb := B.bytes
  have hr := B.returns
  have hts := atoms_spec (ws := wsX4_apply) B.pre
  have hown : s.vm.findClass RX4 = some m.cls := findClass_of_methodNamed B.named
  have hlocks := B.notSynchronized
  rw [hH]
  have hl := lv_entry ([.ref (μ 0), .int (nI b), .int (pi)]) (n := 3) (Nat.le_of_ble_eq_true rfl)
  rw [lg_entry_eq]
  generalize (lg_sl ([.ref (μ 0), .int (nI b), .int (pi)]) ++ List.replicate (3 - (lg_sl ([.ref (μ 0), .int (nI b), .int (pi)])).length) Slot.unset).toArray = ls at hl ⊢
  have hl : lv_has ls 3 [(0, .ref (μ 0)), (1, .int (nI b)), (2, .int (pi))] := hl
  have hWF := hR.1
  have hV4 : sV σ ≤ 400 := hWF.2.1
  have hB4 : sB σ ≤ 40 := hWF.2.2.2.1
  have hC4 : nC ≤ 64 := hMK.le
  refine lv_aload_n hx hb dX4_apply_0 rfl (lv_at hl 0 rfl) ?_
  refine lv_iload_n hx hb dX4_apply_1 rfl (lv_at hl 1 rfl) ?_
  refine k_callX (va_runV (As := [.int (nI b)]) (rest := []) ⟨hx, hb, hml, hown, hts⟩ (c_X4_isBranch_y l D g b0 H μ (sV σ) (sB σ) nC x hM hV4 hB4 hC4 b hb4) (cwV 1 hts gX4_apply_X4_isBranch rfl rfl rfl (by decide +kernel) ⟨Nat.le_of_ble_eq_true rfl, Nat.le_of_ble_eq_true rfl⟩) ⟨kPc_blind, k_recv hK hM.o rfl, fun U hU hW => kPc_at hK hU hW⟩ rfl rfl hl.1 rfl (lv_room (Nat.le_of_ble_eq_true rfl)) dX4_apply_2 ⟨Nat.le_of_ble_eq_true rfl, Nat.le_of_ble_eq_true rfl⟩) ?_
  refine z_if_eq (tgt := 25) hx hb dX4_apply_5 (by decide) (fun h => by cases h) (fun _ => ?_)
  refine lv_aload_n hx hb dX4_apply_8 rfl (lv_at hl 0 rfl) ?_
  refine lv_iload_n hx hb dX4_apply_9 rfl (lv_at hl 2 rfl) ?_
  refine k_callX (va_runV (As := [.int (pi)]) (rest := []) ⟨hx, hb, hml, hown, hts⟩ (c_X4_isPatch_n l D g b0 H μ (sV σ) (sB σ) nC x hM hV4 hB4 hC4 pi hN.1 hN.2) (cwV 1 hts gX4_apply_X4_isPatch rfl rfl rfl (by decide +kernel) ⟨Nat.le_of_ble_eq_true rfl, Nat.le_of_ble_eq_true rfl⟩) ⟨kPc_blind, k_recv hK hM.o rfl, fun U hU hW => kPc_at hK hU hW⟩ rfl rfl hl.1 rfl (lv_room (Nat.le_of_ble_eq_true rfl)) dX4_apply_10 ⟨Nat.le_of_ble_eq_true rfl, Nat.le_of_ble_eq_true rfl⟩) ?_
  refine z_if_eq (tgt := 25) hx hb dX4_apply_13 (by decide) (fun _ => ?_) (fun h => by cases h)
  refine lv_iconst (v := (-1)) hx hb dX4_apply_25 (by decide +kernel) ?_
  exact r_iI hx hb hr LB.nil (Nat.le_refl _) (Nat.le_refl _) (MPubS.of (fun r0 σ' hS => by
    obtain ⟨e1, e2⟩ := SpApply.n hWF (Or.inr hN) hS
    subst e2
    exact ⟨e1.symm, _, _, hM, hR, hMK, MFr.rf⟩)) dX4_apply_26 hlocks
set_option maxHeartbeats 4000000 in
set_option maxRecDepth 100000 in
/-- apply_y0 -/
theorem c_X4_apply_y0 (l : Launch) (D : va_G) (g : Nat → ClassId) (b0 : Nat) (H : Heap) (μ : Nat → Nat) (σ : SG) (nC : Nat) (x : Nat → Nat → Int32) (hM : MC D g b0 μ (sV σ) (sB σ) nC x H) (hR : MR σ x) (hMK : MK σ nC x) (b n : Nat) (hb4 : b < sB σ) (hn : n < sV σ) : Met l yX4_apply wsX4_apply ({ frames := 3, cells := 0, slots := 0, locals := 75 } : Room) (kPc D g [.ref (μ 0), .int (nI b), .int (nI n)] H) (kI (MPubS D g b0 μ H σ (SpApply σ (nI b) (nI n)))) 0 0 (kF b0) := by
  refine Met.ofW (cc := cX4_apply) (maxL := 3) (ret := (some .int)) (by decide) rfl ?_
  intro p e s m args below meth c s₁ B hml hv
  obtain ⟨rfl, hH, hK⟩ := hv
  have hx := B.exec
  have hb := B.bytes
  have hr := B.returns
  have hts := atoms_spec (ws := wsX4_apply) B.pre
  have hown : s.vm.findClass RX4 = some m.cls := findClass_of_methodNamed B.named
  have hlocks := B.notSynchronized
  rw [hH]
  have hl := lv_entry ([.ref (μ 0), .int (nI b), .int (nI n)]) (n := 3) (Nat.le_of_ble_eq_true rfl)
  rw [lg_entry_eq]
  generalize (lg_sl ([.ref (μ 0), .int (nI b), .int (nI n)]) ++ List.replicate (3 - (lg_sl ([.ref (μ 0), .int (nI b), .int (nI n)])).length) Slot.unset).toArray = ls at hl ⊢
  have hl : lv_has ls 3 [(0, .ref (μ 0)), (1, .int (nI b)), (2, .int (nI n))] := hl
  have hWF := hR.1
  have hV4 : sV σ ≤ 400 := hWF.2.1
  have hB4 : sB σ ≤ 40 := hWF.2.2.2.1
  have hC4 : nC ≤ 64 := hMK.le
  refine lv_aload_n hx hb dX4_apply_0 rfl (lv_at hl 0 rfl) ?_
  refine lv_iload_n hx hb dX4_apply_1 rfl (lv_at hl 1 rfl) ?_
  refine k_callX (va_runV (As := [.int (nI b)]) (rest := []) ⟨hx, hb, hml, hown, hts⟩ (c_X4_isBranch_y l D g b0 H μ (sV σ) (sB σ) nC x hM hV4 hB4 hC4 b hb4) (cwV 1 hts gX4_apply_X4_isBranch rfl rfl rfl (by decide +kernel) ⟨Nat.le_of_ble_eq_true rfl, Nat.le_of_ble_eq_true rfl⟩) ⟨kPc_blind, k_recv hK hM.o rfl, fun U hU hW => kPc_at hK hU hW⟩ rfl rfl hl.1 rfl (lv_room (Nat.le_of_ble_eq_true rfl)) dX4_apply_2 ⟨Nat.le_of_ble_eq_true rfl, Nat.le_of_ble_eq_true rfl⟩) ?_
  refine z_if_eq (tgt := 25) hx hb dX4_apply_5 (by decide) (fun h => by cases h) (fun _ => ?_)
  refine lv_aload_n hx hb dX4_apply_8 rfl (lv_at hl 0 rfl) ?_
  refine lv_iload_n hx hb dX4_apply_9 rfl (lv_at hl 2 rfl) ?_
  refine k_callX (va_runV (As := [.int (nI n)]) (rest := []) ⟨hx, hb, hml, hown, hts⟩ (c_X4_isPatch_0 l D g b0 H μ (sV σ) (sB σ) nC x hM hV4 hB4 hC4 n hn) (cwV 1 hts gX4_apply_X4_isPatch rfl rfl rfl (by decide +kernel) ⟨Nat.le_of_ble_eq_true rfl, Nat.le_of_ble_eq_true rfl⟩) ⟨kPc_blind, k_recv hK hM.o rfl, fun U hU hW => kPc_at hK hU hW⟩ rfl rfl hl.1 rfl (lv_room (Nat.le_of_ble_eq_true rfl)) dX4_apply_10 ⟨Nat.le_of_ble_eq_true rfl, Nat.le_of_ble_eq_true rfl⟩) ?_
  refine z_if_eq (tgt := 25) hx hb dX4_apply_13 (by decide) (fun h => by cases h) (fun _ => ?_)
  refine lv_aload_n hx hb dX4_apply_16 rfl (lv_at hl 0 rfl) ?_
  refine lv_iload_n hx hb dX4_apply_17 rfl (lv_at hl 1 rfl) ?_
  refine lv_iload_n hx hb dX4_apply_18 rfl (lv_at hl 2 rfl) ?_
  refine k_callI (va_runV (As := [.int (nI b), .int (nI n)]) (rest := []) ⟨hx, hb, hml, hown, hts⟩ (c_X4_laid_0 l D g b0 H μ σ nC x hM hR hMK b n hb4 hn) (cwV 2 hts gX4_apply_X4_laid rfl rfl rfl (by decide +kernel) ⟨Nat.le_of_ble_eq_true rfl, Nat.le_of_ble_eq_true rfl⟩) ⟨kPc_blind, k_recv hK hM.o rfl, fun U hU hW => kPc_at hK hU hW⟩ rfl rfl hl.1 rfl (lv_room (Nat.le_of_ble_eq_true rfl)) dX4_apply_19 ⟨Nat.le_of_ble_eq_true rfl, Nat.le_of_ble_eq_true rfl⟩) LB.nil (fun ra Hz locsz hLBz hqz => ?_)
  refine lv_goto (tgt := 26) hx hb dX4_apply_22 (by decide) ?_
  exact r_iI hx hb hr hLBz (Nat.le_refl _) (Nat.le_refl _) (fun r0 σ' hS => hqz r0 σ' (SpApply.y hWF hb4 hn hS)) dX4_apply_26 hlocks
set_option maxHeartbeats 4000000 in
set_option maxRecDepth 100000 in
/-- apply_y1 -/
theorem c_X4_apply_y1 (l : Launch) (D : va_G) (g : Nat → ClassId) (b0 : Nat) (H : Heap) (μ : Nat → Nat) (σ : SG) (nC : Nat) (x : Nat → Nat → Int32) (hM : MC D g b0 μ (sV σ) (sB σ) nC x H) (hR : MR σ x) (hMK : MK σ nC x) (b n : Nat) (hb4 : b < sB σ) (hn : n < sV σ) : Met l yX4_apply wsX4_apply ({ frames := 3, cells := 0, slots := 0, locals := 75 } : Room) (kPc D g [.ref (μ 0), .int (nI b), .int ((-1) - nI n)] H) (kI (MPubS D g b0 μ H σ (SpApply σ (nI b) ((-1) - nI n)))) 0 0 (kF b0) := by
  refine Met.ofW (cc := cX4_apply) (maxL := 3) (ret := (some .int)) (by decide) rfl ?_
  intro p e s m args below meth c s₁ B hml hv
  obtain ⟨rfl, hH, hK⟩ := hv
  have hx := B.exec
  have hb := B.bytes
  have hr := B.returns
  have hts := atoms_spec (ws := wsX4_apply) B.pre
  have hown : s.vm.findClass RX4 = some m.cls := findClass_of_methodNamed B.named
  have hlocks := B.notSynchronized
  rw [hH]
  have hl := lv_entry ([.ref (μ 0), .int (nI b), .int ((-1) - nI n)]) (n := 3) (Nat.le_of_ble_eq_true rfl)
  rw [lg_entry_eq]
  generalize (lg_sl ([.ref (μ 0), .int (nI b), .int ((-1) - nI n)]) ++ List.replicate (3 - (lg_sl ([.ref (μ 0), .int (nI b), .int ((-1) - nI n)])).length) Slot.unset).toArray = ls at hl ⊢
  have hl : lv_has ls 3 [(0, .ref (μ 0)), (1, .int (nI b)), (2, .int ((-1) - nI n))] := hl
  have hWF := hR.1
  have hV4 : sV σ ≤ 400 := hWF.2.1
  have hB4 : sB σ ≤ 40 := hWF.2.2.2.1
  have hC4 : nC ≤ 64 := hMK.le
  refine lv_aload_n hx hb dX4_apply_0 rfl (lv_at hl 0 rfl) ?_
  refine lv_iload_n hx hb dX4_apply_1 rfl (lv_at hl 1 rfl) ?_
  refine k_callX (va_runV (As := [.int (nI b)]) (rest := []) ⟨hx, hb, hml, hown, hts⟩ (c_X4_isBranch_y l D g b0 H μ (sV σ) (sB σ) nC x hM hV4 hB4 hC4 b hb4) (cwV 1 hts gX4_apply_X4_isBranch rfl rfl rfl (by decide +kernel) ⟨Nat.le_of_ble_eq_true rfl, Nat.le_of_ble_eq_true rfl⟩) ⟨kPc_blind, k_recv hK hM.o rfl, fun U hU hW => kPc_at hK hU hW⟩ rfl rfl hl.1 rfl (lv_room (Nat.le_of_ble_eq_true rfl)) dX4_apply_2 ⟨Nat.le_of_ble_eq_true rfl, Nat.le_of_ble_eq_true rfl⟩) ?_
  refine z_if_eq (tgt := 25) hx hb dX4_apply_5 (by decide) (fun h => by cases h) (fun _ => ?_)
  refine lv_aload_n hx hb dX4_apply_8 rfl (lv_at hl 0 rfl) ?_
  refine lv_iload_n hx hb dX4_apply_9 rfl (lv_at hl 2 rfl) ?_
  refine k_callX (va_runV (As := [.int ((-1) - nI n)]) (rest := []) ⟨hx, hb, hml, hown, hts⟩ (c_X4_isPatch_1 l D g b0 H μ (sV σ) (sB σ) nC x hM hV4 hB4 hC4 n hn) (cwV 1 hts gX4_apply_X4_isPatch rfl rfl rfl (by decide +kernel) ⟨Nat.le_of_ble_eq_true rfl, Nat.le_of_ble_eq_true rfl⟩) ⟨kPc_blind, k_recv hK hM.o rfl, fun U hU hW => kPc_at hK hU hW⟩ rfl rfl hl.1 rfl (lv_room (Nat.le_of_ble_eq_true rfl)) dX4_apply_10 ⟨Nat.le_of_ble_eq_true rfl, Nat.le_of_ble_eq_true rfl⟩) ?_
  refine z_if_eq (tgt := 25) hx hb dX4_apply_13 (by decide) (fun h => by cases h) (fun _ => ?_)
  refine lv_aload_n hx hb dX4_apply_16 rfl (lv_at hl 0 rfl) ?_
  refine lv_iload_n hx hb dX4_apply_17 rfl (lv_at hl 1 rfl) ?_
  refine lv_iload_n hx hb dX4_apply_18 rfl (lv_at hl 2 rfl) ?_
  refine k_callI (va_runV (As := [.int (nI b), .int ((-1) - nI n)]) (rest := []) ⟨hx, hb, hml, hown, hts⟩ (c_X4_laid_1 l D g b0 H μ σ nC x hM hR hMK b n hb4 hn) (cwV 2 hts gX4_apply_X4_laid rfl rfl rfl (by decide +kernel) ⟨Nat.le_of_ble_eq_true rfl, Nat.le_of_ble_eq_true rfl⟩) ⟨kPc_blind, k_recv hK hM.o rfl, fun U hU hW => kPc_at hK hU hW⟩ rfl rfl hl.1 rfl (lv_room (Nat.le_of_ble_eq_true rfl)) dX4_apply_19 ⟨Nat.le_of_ble_eq_true rfl, Nat.le_of_ble_eq_true rfl⟩) LB.nil (fun ra Hz locsz hLBz hqz => ?_)
  refine lv_goto (tgt := 26) hx hb dX4_apply_22 (by decide) ?_
  exact r_iI hx hb hr hLBz (Nat.le_refl _) (Nat.le_refl _) (fun r0 σ' hS => hqz r0 σ' (SpApply.z hWF hb4 hn hS)) dX4_apply_26 hlocks
theorem c_X4_apply (l : Launch) (D : va_G) (g : Nat → ClassId) (b0 : Nat) (H : Heap) (μ : Nat → Nat) (σ : SG) (nC : Nat) (x : Nat → Nat → Int32) (hM : MC D g b0 μ (sV σ) (sB σ) nC x H) (hR : MR σ x) (hMK : MK σ nC x) (bi pi : Int32) : Met l yX4_apply wsX4_apply ({ frames := 3, cells := 0, slots := 0, locals := 75 } : Room) (kPc D g [.ref (μ 0), .int bi, .int pi] H) (kI (MPubS D g b0 μ H σ (SpApply σ bi pi))) 0 0 (kF b0) := by
  rcases br_dec σ bi with h | ⟨b, hb4, rfl⟩
  · exact c_X4_apply_n1 l D g b0 H μ σ nC x hM hR hMK bi pi h
  · rcases pa_dec σ pi with h | ⟨n, hn, rfl | rfl⟩
    · exact c_X4_apply_n2 l D g b0 H μ σ nC x hM hR hMK b hb4 pi h
    · exact c_X4_apply_y0 l D g b0 H μ σ nC x hM hR hMK b n hb4 hn
    · exact c_X4_apply_y1 l D g b0 H μ σ nC x hM hR hMK b n hb4 hn
set_option maxHeartbeats 4000000 in
set_option maxRecDepth 100000 in
/-- revert_n1 -/
theorem c_X4_revert_n1 (l : Launch) (D : va_G) (g : Nat → ClassId) (b0 : Nat) (H : Heap) (μ : Nat → Nat) (σ : SG) (nC : Nat) (x : Nat → Nat → Int32) (hM : MC D g b0 μ (sV σ) (sB σ) nC x H) (hR : MR σ x) (hMK : MK σ nC x) (bi ni : Int32) (hN : BrN σ bi) : Met l yX4_revert wsX4_revert ({ frames := 3, cells := 0, slots := 0, locals := 75 } : Room) (kPc D g [.ref (μ 0), .int (bi), .int (ni)] H) (kI (MPubS D g b0 μ H σ (SpRevert σ bi ni))) 0 0 (kF b0) := by
  refine Met.ofW (cc := cX4_revert) (maxL := 3) (ret := (some .int)) (by decide) rfl ?_
  intro p e s m args below meth c s₁ B hml hv
  obtain ⟨rfl, hH, hK⟩ := hv
  have hx := B.exec
  have hb := B.bytes
  have hr := B.returns
  have hts := atoms_spec (ws := wsX4_revert) B.pre
  have hown : s.vm.findClass RX4 = some m.cls := findClass_of_methodNamed B.named
  have hlocks := B.notSynchronized
  rw [hH]
  have hl := lv_entry ([.ref (μ 0), .int (bi), .int (ni)]) (n := 3) (Nat.le_of_ble_eq_true rfl)
  rw [lg_entry_eq]
  generalize (lg_sl ([.ref (μ 0), .int (bi), .int (ni)]) ++ List.replicate (3 - (lg_sl ([.ref (μ 0), .int (bi), .int (ni)])).length) Slot.unset).toArray = ls at hl ⊢
  have hl : lv_has ls 3 [(0, .ref (μ 0)), (1, .int (bi)), (2, .int (ni))] := hl
  have hWF := hR.1
  have hV4 : sV σ ≤ 400 := hWF.2.1
  have hB4 : sB σ ≤ 40 := hWF.2.2.2.1
  have hC4 : nC ≤ 64 := hMK.le
  refine lv_aload_n hx hb dX4_revert_0 rfl (lv_at hl 0 rfl) ?_
  refine lv_iload_n hx hb dX4_revert_1 rfl (lv_at hl 1 rfl) ?_
  refine k_callX (va_runV (As := [.int (bi)]) (rest := []) ⟨hx, hb, hml, hown, hts⟩ (c_X4_isBranch_n l D g b0 H μ (sV σ) (sB σ) nC x hM hV4 hB4 hC4 bi hN) (cwV 1 hts gX4_revert_X4_isBranch rfl rfl rfl (by decide +kernel) ⟨Nat.le_of_ble_eq_true rfl, Nat.le_of_ble_eq_true rfl⟩) ⟨kPc_blind, k_recv hK hM.o rfl, fun U hU hW => kPc_at hK hU hW⟩ rfl rfl hl.1 rfl (lv_room (Nat.le_of_ble_eq_true rfl)) dX4_revert_2 ⟨Nat.le_of_ble_eq_true rfl, Nat.le_of_ble_eq_true rfl⟩) ?_
  refine z_if_eq (tgt := 16) hx hb dX4_revert_5 (by decide) (fun _ => ?_) (fun h => by cases h)
  refine lv_iconst (v := (-1)) hx hb dX4_revert_16 (by decide +kernel) ?_
  exact r_iI hx hb hr LB.nil (Nat.le_refl _) (Nat.le_refl _) (MPubS.of (fun r0 σ' hS => by
    obtain ⟨e1, e2⟩ := SpRevert.n (Or.inl hN) hS
    subst e2
    exact ⟨e1.symm, _, _, hM, hR, hMK, MFr.rf⟩)) dX4_revert_17 hlocks
set_option maxHeartbeats 4000000 in
set_option maxRecDepth 100000 in
/-- revert_n2 -/
theorem c_X4_revert_n2 (l : Launch) (D : va_G) (g : Nat → ClassId) (b0 : Nat) (H : Heap) (μ : Nat → Nat) (σ : SG) (nC : Nat) (x : Nat → Nat → Int32) (hM : MC D g b0 μ (sV σ) (sB σ) nC x H) (hR : MR σ x) (hMK : MK σ nC x) (b : Nat) (hb4 : b < sB σ) (ni : Int32) (hN : VeN σ ni) : Met l yX4_revert wsX4_revert ({ frames := 3, cells := 0, slots := 0, locals := 75 } : Room) (kPc D g [.ref (μ 0), .int (nI b), .int (ni)] H) (kI (MPubS D g b0 μ H σ (SpRevert σ (nI b) ni))) 0 0 (kF b0) := by
  refine Met.ofW (cc := cX4_revert) (maxL := 3) (ret := (some .int)) (by decide) rfl ?_
  intro p e s m args below meth c s₁ B hml hv
  obtain ⟨rfl, hH, hK⟩ := hv
  have hx := B.exec
  have hb := B.bytes
  have hr := B.returns
  have hts := atoms_spec (ws := wsX4_revert) B.pre
  have hown : s.vm.findClass RX4 = some m.cls := findClass_of_methodNamed B.named
  have hlocks := B.notSynchronized
  rw [hH]
  have hl := lv_entry ([.ref (μ 0), .int (nI b), .int (ni)]) (n := 3) (Nat.le_of_ble_eq_true rfl)
  rw [lg_entry_eq]
  generalize (lg_sl ([.ref (μ 0), .int (nI b), .int (ni)]) ++ List.replicate (3 - (lg_sl ([.ref (μ 0), .int (nI b), .int (ni)])).length) Slot.unset).toArray = ls at hl ⊢
  have hl : lv_has ls 3 [(0, .ref (μ 0)), (1, .int (nI b)), (2, .int (ni))] := hl
  have hWF := hR.1
  have hV4 : sV σ ≤ 400 := hWF.2.1
  have hB4 : sB σ ≤ 40 := hWF.2.2.2.1
  have hC4 : nC ≤ 64 := hMK.le
  refine lv_aload_n hx hb dX4_revert_0 rfl (lv_at hl 0 rfl) ?_
  refine lv_iload_n hx hb dX4_revert_1 rfl (lv_at hl 1 rfl) ?_
  refine k_callX (va_runV (As := [.int (nI b)]) (rest := []) ⟨hx, hb, hml, hown, hts⟩ (c_X4_isBranch_y l D g b0 H μ (sV σ) (sB σ) nC x hM hV4 hB4 hC4 b hb4) (cwV 1 hts gX4_revert_X4_isBranch rfl rfl rfl (by decide +kernel) ⟨Nat.le_of_ble_eq_true rfl, Nat.le_of_ble_eq_true rfl⟩) ⟨kPc_blind, k_recv hK hM.o rfl, fun U hU hW => kPc_at hK hU hW⟩ rfl rfl hl.1 rfl (lv_room (Nat.le_of_ble_eq_true rfl)) dX4_revert_2 ⟨Nat.le_of_ble_eq_true rfl, Nat.le_of_ble_eq_true rfl⟩) ?_
  refine z_if_eq (tgt := 16) hx hb dX4_revert_5 (by decide) (fun h => by cases h) (fun _ => ?_)
  refine lv_aload_n hx hb dX4_revert_8 rfl (lv_at hl 0 rfl) ?_
  refine lv_iload_n hx hb dX4_revert_9 rfl (lv_at hl 2 rfl) ?_
  refine k_callX (va_runV (As := [.int (ni)]) (rest := []) ⟨hx, hb, hml, hown, hts⟩ (c_X4_isVersion_n l D g b0 H μ (sV σ) (sB σ) nC x hM hV4 hB4 hC4 ni hN) (cwV 1 hts gX4_revert_X4_isVersion rfl rfl rfl (by decide +kernel) ⟨Nat.le_of_ble_eq_true rfl, Nat.le_of_ble_eq_true rfl⟩) ⟨kPc_blind, k_recv hK hM.o rfl, fun U hU hW => kPc_at hK hU hW⟩ rfl rfl hl.1 rfl (lv_room (Nat.le_of_ble_eq_true rfl)) dX4_revert_10 ⟨Nat.le_of_ble_eq_true rfl, Nat.le_of_ble_eq_true rfl⟩) ?_
  refine z_if_ne (tgt := 18) hx hb dX4_revert_13 (by decide) (fun h => by cases h) (fun _ => ?_)
  refine lv_iconst (v := (-1)) hx hb dX4_revert_16 (by decide +kernel) ?_
  exact r_iI hx hb hr LB.nil (Nat.le_refl _) (Nat.le_refl _) (MPubS.of (fun r0 σ' hS => by
    obtain ⟨e1, e2⟩ := SpRevert.n (Or.inr hN) hS
    subst e2
    exact ⟨e1.symm, _, _, hM, hR, hMK, MFr.rf⟩)) dX4_revert_17 hlocks
set_option maxHeartbeats 4000000 in
set_option maxRecDepth 100000 in
/-- revert_y -/
theorem c_X4_revert_y (l : Launch) (D : va_G) (g : Nat → ClassId) (b0 : Nat) (H : Heap) (μ : Nat → Nat) (σ : SG) (nC : Nat) (x : Nat → Nat → Int32) (hM : MC D g b0 μ (sV σ) (sB σ) nC x H) (hR : MR σ x) (hMK : MK σ nC x) (b n : Nat) (hb4 : b < sB σ) (hn : n < sV σ) : Met l yX4_revert wsX4_revert ({ frames := 3, cells := 0, slots := 0, locals := 75 } : Room) (kPc D g [.ref (μ 0), .int (nI b), .int (nI n)] H) (kI (MPubS D g b0 μ H σ (SpRevert σ (nI b) (nI n)))) 0 0 (kF b0) := by
  refine Met.ofW (cc := cX4_revert) (maxL := 3) (ret := (some .int)) (by decide) rfl ?_
  intro p e s m args below meth c s₁ B hml hv
  obtain ⟨rfl, hH, hK⟩ := hv
  have hx := B.exec
  have hb := B.bytes
  have hr := B.returns
  have hts := atoms_spec (ws := wsX4_revert) B.pre
  have hown : s.vm.findClass RX4 = some m.cls := findClass_of_methodNamed B.named
  have hlocks := B.notSynchronized
  rw [hH]
  have hl := lv_entry ([.ref (μ 0), .int (nI b), .int (nI n)]) (n := 3) (Nat.le_of_ble_eq_true rfl)
  rw [lg_entry_eq]
  generalize (lg_sl ([.ref (μ 0), .int (nI b), .int (nI n)]) ++ List.replicate (3 - (lg_sl ([.ref (μ 0), .int (nI b), .int (nI n)])).length) Slot.unset).toArray = ls at hl ⊢
  have hl : lv_has ls 3 [(0, .ref (μ 0)), (1, .int (nI b)), (2, .int (nI n))] := hl
  have hWF := hR.1
  have hV4 : sV σ ≤ 400 := hWF.2.1
  have hB4 : sB σ ≤ 40 := hWF.2.2.2.1
  have hC4 : nC ≤ 64 := hMK.le
  have hhd := hWF.2.2.2.2.1 b hb4
  refine lv_aload_n hx hb dX4_revert_0 rfl (lv_at hl 0 rfl) ?_
  refine lv_iload_n hx hb dX4_revert_1 rfl (lv_at hl 1 rfl) ?_
  refine k_callX (va_runV (As := [.int (nI b)]) (rest := []) ⟨hx, hb, hml, hown, hts⟩ (c_X4_isBranch_y l D g b0 H μ (sV σ) (sB σ) nC x hM hV4 hB4 hC4 b hb4) (cwV 1 hts gX4_revert_X4_isBranch rfl rfl rfl (by decide +kernel) ⟨Nat.le_of_ble_eq_true rfl, Nat.le_of_ble_eq_true rfl⟩) ⟨kPc_blind, k_recv hK hM.o rfl, fun U hU hW => kPc_at hK hU hW⟩ rfl rfl hl.1 rfl (lv_room (Nat.le_of_ble_eq_true rfl)) dX4_revert_2 ⟨Nat.le_of_ble_eq_true rfl, Nat.le_of_ble_eq_true rfl⟩) ?_
  refine z_if_eq (tgt := 16) hx hb dX4_revert_5 (by decide) (fun h => by cases h) (fun _ => ?_)
  refine lv_aload_n hx hb dX4_revert_8 rfl (lv_at hl 0 rfl) ?_
  refine lv_iload_n hx hb dX4_revert_9 rfl (lv_at hl 2 rfl) ?_
  refine k_callX (va_runV (As := [.int (nI n)]) (rest := []) ⟨hx, hb, hml, hown, hts⟩ (c_X4_isVersion_y l D g b0 H μ (sV σ) (sB σ) nC x hM hV4 hB4 hC4 n hn) (cwV 1 hts gX4_revert_X4_isVersion rfl rfl rfl (by decide +kernel) ⟨Nat.le_of_ble_eq_true rfl, Nat.le_of_ble_eq_true rfl⟩) ⟨kPc_blind, k_recv hK hM.o rfl, fun U hU hW => kPc_at hK hU hW⟩ rfl rfl hl.1 rfl (lv_room (Nat.le_of_ble_eq_true rfl)) dX4_revert_10 ⟨Nat.le_of_ble_eq_true rfl, Nat.le_of_ble_eq_true rfl⟩) ?_
  refine z_if_ne (tgt := 18) hx hb dX4_revert_13 (by decide) (fun _ => ?_) (fun h => by cases h)
  refine lv_aload_n hx hb dX4_revert_18 rfl (lv_at hl 0 rfl) ?_
  refine lv_aload_n hx hb dX4_revert_19 rfl (lv_at hl 0 rfl) ?_
  refine k_get (ci := 4) (C := RX4) (T := TX4) (N := 13) (v := .ref (μ 4)) hx hb hts (by decide +kernel) hown hK hM.o rfl 4 (by decide) rfl (hts (.fieldLink RX4 21 RX4 "heads" "[I") (by decide +kernel)) rfl dX4_revert_20 ?_
  refine lv_iload_n hx hb dX4_revert_23 rfl (lv_at hl 1 rfl) ?_
  refine k_iald hx hb hK hM.a4 (b) rfl (by omega) (by omega) dX4_revert_24 ?_
  rw [show x 4 (b) = nI (sH σ b) from (hR.2.2.2.2 b hb4)]
  refine lv_aload_n hx hb dX4_revert_25 rfl (lv_at hl 0 rfl) ?_
  refine k_get (ci := 4) (C := RX4) (T := TX4) (N := 13) (v := .ref (μ 5)) hx hb hts (by decide +kernel) hown hK hM.o rfl 6 (by decide) rfl (hts (.fieldLink RX4 24 RX4 "ones" "[Z") (by decide +kernel)) rfl dX4_revert_26 ?_
  refine k_callU (va_runV (As := [.int (nI (sH σ b)), .ref (μ 5)]) (rest := []) ⟨hx, hb, hml, hown, hts⟩ (c_X4_mark_5 l D g b0 H μ σ nC x hM hR hC4 (sH σ b) hhd) (cwV 2 hts gX4_revert_X4_mark rfl rfl rfl (by decide +kernel) ⟨Nat.le_of_ble_eq_true rfl, Nat.le_of_ble_eq_true rfl⟩) ⟨kPc_blind, k_recv hK hM.o rfl, fun U hU hW => kPc_at hK hU hW⟩ rfl rfl hl.1 rfl (lv_room (Nat.le_of_ble_eq_true rfl)) dX4_revert_29 ⟨Nat.le_of_ble_eq_true rfl, Nat.le_of_ble_eq_true rfl⟩) LB.nil (fun H1 locs1 hLB1 hq1 => ?_)
  obtain ⟨m1, hM1, hF1, hm1⟩ := hq1
  have hR1 := hR.up (c := 5) (by omega) m1
  have hMK1 : MK σ nC (va_up x 5 m1) := hMK.keep rfl (fun c hc => up_ne _ _ (by omega))
  refine lv_aload_n hx hb dX4_revert_32 rfl (lv_at hl 0 rfl) ?_
  refine k_get (ci := 4) (C := RX4) (T := TX4) (N := 13) (v := .ref (μ 5)) hx hb hts (by decide +kernel) hown hK hM1.o rfl 6 (by decide) rfl (hts (.fieldLink RX4 24 RX4 "ones" "[Z") (by decide +kernel)) rfl dX4_revert_33 ?_
  refine lv_iload_n hx hb dX4_revert_36 rfl (lv_at hl 2 rfl) ?_
  refine k_zald hx hb hK hM1.a5 (n) rfl (by omega) (by omega) dX4_revert_37 ?_
  rw [show (va_up x 5 m1) 5 (n) = b2i (sA σ (sH σ b) n) from (hm1 n hn)]
  refine z_if_eq (tgt := 50) hx hb dX4_revert_38 (by decide) (fun c_885 => ?_) (fun c_885 => ?_)
  · skip
    refine lv_bipush (v := (-3)) hx hb dX4_revert_50 (by decide +kernel) ?_
    refine r_iI hx hb hr hLB1 (Nat.le_refl _) (Nat.le_refl _) (MPubS.of (fun r0 σ' hS => ?_)) dX4_revert_52 hlocks
    rcases hS.y hWF hb4 hn with ⟨-, hr0, hs⟩ | ⟨z, z2, -⟩
    · subst hs
      exact ⟨hr0.symm, _, _, hM1, hR1, hMK1, hF1⟩
    · rw [c_885] at z; cases z
  · skip
    rcases hse : sS σ n with _ | p2
    · skip
      refine lv_aload_n hx hb dX4_revert_41 rfl (lv_at hl 0 rfl) ?_
      refine k_get (ci := 4) (C := RX4) (T := TX4) (N := 13) (v := .ref (μ 3)) hx hb hts (by decide +kernel) hown hK hM1.o rfl 2 (by decide) rfl (hts (.fieldLink RX4 18 RX4 "seconds" "[I") (by decide +kernel)) rfl dX4_revert_42 ?_
      refine lv_iload_n hx hb dX4_revert_45 rfl (lv_at hl 2 rfl) ?_
      refine k_iald hx hb hK hM1.a3 (n) rfl (by omega) (by omega) dX4_revert_46 ?_
      rw [show (va_up x 5 m1) 3 (n) = (-1) from (by have q := hR1.2.2.2.1 n hn; rw [hse] at q; exact q)]
      refine lv_if_lt (tgt := 53) hx hb dX4_revert_47 (by decide) (fun _ => ?_) (fun q => absurd (by decide +kernel) q)
      refine lv_aload_n hx hb dX4_revert_53 rfl (lv_at hl 0 rfl) ?_
      refine lv_iload_n hx hb dX4_revert_54 rfl (lv_at hl 1 rfl) ?_
      refine lv_iconst (v := (-1)) hx hb dX4_revert_55 (by decide +kernel) ?_
      refine lv_iload_n hx hb dX4_revert_56 rfl (lv_at hl 2 rfl) ?_
      refine lv_isub hx hb dX4_revert_57 ?_
      refine k_callI (va_runV (As := [.int (nI b), .int ((-1) - nI n)]) (rest := []) ⟨hx, hb, hml, hown, hts⟩ (c_X4_laid_1 l D g b0 H1 μ σ nC (va_up x 5 m1) hM1 hR1 hMK1 b n hb4 hn) (cwV 2 hts gX4_revert_X4_laid rfl rfl rfl (by decide +kernel) ⟨Nat.le_of_ble_eq_true rfl, Nat.le_of_ble_eq_true rfl⟩) ⟨kPc_blind, k_recv hK hM1.o rfl, fun U hU hW => kPc_at hK hU hW⟩ rfl rfl hl.1 rfl (lv_room (Nat.le_of_ble_eq_true rfl)) dX4_revert_58 ⟨Nat.le_of_ble_eq_true rfl, Nat.le_of_ble_eq_true rfl⟩) hLB1 (fun ra Hz locsz hLBz hqz => ?_)
      refine r_iI hx hb hr hLBz (Nat.le_refl _) (Nat.le_refl _) (fun r0 σ' hS => ?_) dX4_revert_61 hlocks
      rcases hS.y hWF hb4 hn with ⟨z | z, -⟩ | ⟨-, -, hL⟩
      · rw [c_885] at z; cases z
      · exact absurd hse z
      · obtain ⟨e1, nC', x', q1, q2, q3, q4⟩ := hqz r0 σ' hL
        exact ⟨e1, nC', x', q1, q2, q3, hF1.tr q4⟩
    · skip
      have hp2 := (hWF.2.2.2.2.2 n hn).2.1 p2 hse
      refine lv_aload_n hx hb dX4_revert_41 rfl (lv_at hl 0 rfl) ?_
      refine k_get (ci := 4) (C := RX4) (T := TX4) (N := 13) (v := .ref (μ 3)) hx hb hts (by decide +kernel) hown hK hM1.o rfl 2 (by decide) rfl (hts (.fieldLink RX4 18 RX4 "seconds" "[I") (by decide +kernel)) rfl dX4_revert_42 ?_
      refine lv_iload_n hx hb dX4_revert_45 rfl (lv_at hl 2 rfl) ?_
      refine k_iald hx hb hK hM1.a3 (n) rfl (by omega) (by omega) dX4_revert_46 ?_
      rw [show (va_up x 5 m1) 3 (n) = nI p2 from (by have q := hR1.2.2.2.1 n hn; rw [hse] at q; exact q)]
      refine n_if_lt (tgt := 53) hx hb dX4_revert_47 (by decide) (by omega) ?_
      refine lv_bipush (v := (-3)) hx hb dX4_revert_50 (by decide +kernel) ?_
      refine r_iI hx hb hr hLB1 (Nat.le_refl _) (Nat.le_refl _) (MPubS.of (fun r0 σ' hS => ?_)) dX4_revert_52 hlocks
      rcases hS.y hWF hb4 hn with ⟨-, hr0, hs⟩ | ⟨z, z2, -⟩
      · subst hs
        exact ⟨hr0.symm, _, _, hM1, hR1, hMK1, hF1⟩
      · rw [hse] at z2; cases z2
theorem c_X4_revert (l : Launch) (D : va_G) (g : Nat → ClassId) (b0 : Nat) (H : Heap) (μ : Nat → Nat) (σ : SG) (nC : Nat) (x : Nat → Nat → Int32) (hM : MC D g b0 μ (sV σ) (sB σ) nC x H) (hR : MR σ x) (hMK : MK σ nC x) (bi ni : Int32) : Met l yX4_revert wsX4_revert ({ frames := 3, cells := 0, slots := 0, locals := 75 } : Room) (kPc D g [.ref (μ 0), .int bi, .int ni] H) (kI (MPubS D g b0 μ H σ (SpRevert σ bi ni))) 0 0 (kF b0) := by
  rcases br_dec σ bi with h | ⟨b, hb4, rfl⟩
  · exact c_X4_revert_n1 l D g b0 H μ σ nC x hM hR hMK bi ni h
  · rcases ve_dec σ ni with h | ⟨n, hn, rfl⟩
    · exact c_X4_revert_n2 l D g b0 H μ σ nC x hM hR hMK b hb4 ni h
    · exact c_X4_revert_y l D g b0 H μ σ nC x hM hR hMK b n hb4 hn
set_option maxHeartbeats 4000000 in
set_option maxRecDepth 100000 in
/-- branch_n -/
theorem c_X4_branch_n (l : Launch) (D : va_G) (g : Nat → ClassId) (b0 : Nat) (H : Heap) (μ : Nat → Nat) (σ : SG) (nC : Nat) (x : Nat → Nat → Int32) (hM : MC D g b0 μ (sV σ) (sB σ) nC x H) (hR : MR σ x) (hMK : MK σ nC x) (i : Int32) (hN : BrN σ i) (h1 : ¬ i = -1) : Met l yX4_branch wsX4_branch ({ frames := 2, cells := 0, slots := 0, locals := 44 } : Room) (kPc D g [.ref (μ 0), .int (i)] H) (kI (MPubQ D g b0 μ H (SpBranch σ i))) 0 0 (kF b0) := by
  refine Met.ofW (cc := cX4_branch) (maxL := 2) (ret := (some .int)) (by decide) rfl ?_
  intro p e s m args below meth c s₁ B hml hv
  obtain ⟨rfl, hH, hK⟩ := hv
  have hx := B.exec
  have hb := B.bytes
  have hr := B.returns
  have hts := atoms_spec (ws := wsX4_branch) B.pre
  have hown : s.vm.findClass RX4 = some m.cls := findClass_of_methodNamed B.named
  have hlocks := B.notSynchronized
  rw [hH]
  have hl := lv_entry ([.ref (μ 0), .int (i)]) (n := 2) (Nat.le_of_ble_eq_true rfl)
  rw [lg_entry_eq]
  generalize (lg_sl ([.ref (μ 0), .int (i)]) ++ List.replicate (2 - (lg_sl ([.ref (μ 0), .int (i)])).length) Slot.unset).toArray = ls at hl ⊢
  have hl : lv_has ls 2 [(0, .ref (μ 0)), (1, .int (i))] := hl
  have hWF := hR.1
  have hV4 : sV σ ≤ 400 := hWF.2.1
  have hB4 : sB σ ≤ 40 := hWF.2.2.2.1
  have hC4 : nC ≤ 64 := hMK.le
  refine lv_iload_n hx hb dX4_branch_0 rfl (lv_at hl 1 rfl) ?_
  refine lv_iconst (v := (-1)) hx hb dX4_branch_1 (by decide +kernel) ?_
  refine lv_icmp_eq (tgt := 15) hx hb dX4_branch_2 (by decide) (fun q => absurd q h1) (fun _ => ?_)
  refine lv_aload_n hx hb dX4_branch_5 rfl (lv_at hl 0 rfl) ?_
  refine lv_iload_n hx hb dX4_branch_6 rfl (lv_at hl 1 rfl) ?_
  refine k_callX (va_runV (As := [.int (i)]) (rest := []) ⟨hx, hb, hml, hown, hts⟩ (c_X4_isBranch_n l D g b0 H μ (sV σ) (sB σ) nC x hM hV4 hB4 hC4 i hN) (cwV 1 hts gX4_branch_X4_isBranch rfl rfl rfl (by decide +kernel) ⟨Nat.le_of_ble_eq_true rfl, Nat.le_of_ble_eq_true rfl⟩) ⟨kPc_blind, k_recv hK hM.o rfl, fun U hU hW => kPc_at hK hU hW⟩ rfl rfl hl.1 rfl (lv_room (Nat.le_of_ble_eq_true rfl)) dX4_branch_7 ⟨Nat.le_of_ble_eq_true rfl, Nat.le_of_ble_eq_true rfl⟩) ?_
  refine z_if_ne (tgt := 15) hx hb dX4_branch_10 (by decide) (fun h => by cases h) (fun _ => ?_)
  refine lv_iconst (v := (-1)) hx hb dX4_branch_13 (by decide +kernel) ?_
  exact r_iI hx hb hr LB.nil (Nat.le_refl _) (Nat.le_refl _) (fun r0 σ' hS => by
    obtain ⟨e1, e2⟩ := hS.n hN h1
    subst e2
    exact ⟨e1.symm, _, _, hM, hR, hMK, MFr.rf⟩) dX4_branch_14 hlocks
set_option maxHeartbeats 4000000 in
set_option maxRecDepth 100000 in
/-- branch_y -/
theorem c_X4_branch_y (l : Launch) (D : va_G) (g : Nat → ClassId) (b0 : Nat) (H : Heap) (μ : Nat → Nat) (σ : SG) (nC : Nat) (x : Nat → Nat → Int32) (hM : MC D g b0 μ (sV σ) (sB σ) nC x H) (hR : MR σ x) (hMK : MK σ nC x) (b : Nat) (hb4 : b < sB σ) : Met l yX4_branch wsX4_branch ({ frames := 2, cells := 0, slots := 0, locals := 44 } : Room) (kPc D g [.ref (μ 0), .int (nI b)] H) (kI (MPubQ D g b0 μ H (SpBranch σ (nI b)))) 0 0 (kF b0) := by
  refine Met.ofW (cc := cX4_branch) (maxL := 2) (ret := (some .int)) (by decide) rfl ?_
  intro p e s m args below meth c s₁ B hml hv
  obtain ⟨rfl, hH, hK⟩ := hv
  have hx := B.exec
  have hb := B.bytes
  have hr := B.returns
  have hts := atoms_spec (ws := wsX4_branch) B.pre
  have hown : s.vm.findClass RX4 = some m.cls := findClass_of_methodNamed B.named
  have hlocks := B.notSynchronized
  rw [hH]
  have hl := lv_entry ([.ref (μ 0), .int (nI b)]) (n := 2) (Nat.le_of_ble_eq_true rfl)
  rw [lg_entry_eq]
  generalize (lg_sl ([.ref (μ 0), .int (nI b)]) ++ List.replicate (2 - (lg_sl ([.ref (μ 0), .int (nI b)])).length) Slot.unset).toArray = ls at hl ⊢
  have hl : lv_has ls 2 [(0, .ref (μ 0)), (1, .int (nI b))] := hl
  have hWF := hR.1
  have hV4 : sV σ ≤ 400 := hWF.2.1
  have hB4 : sB σ ≤ 40 := hWF.2.2.2.1
  have hC4 : nC ≤ 64 := hMK.le
  have hhd := hWF.2.2.2.2.1 b hb4
  have hn1 : ¬ nI b = -1 := nI_neg (by omega)
  refine lv_iload_n hx hb dX4_branch_0 rfl (lv_at hl 1 rfl) ?_
  refine lv_iconst (v := (-1)) hx hb dX4_branch_1 (by decide +kernel) ?_
  refine lv_icmp_eq (tgt := 15) hx hb dX4_branch_2 (by decide) (fun q => absurd q hn1) (fun _ => ?_)
  refine lv_aload_n hx hb dX4_branch_5 rfl (lv_at hl 0 rfl) ?_
  refine lv_iload_n hx hb dX4_branch_6 rfl (lv_at hl 1 rfl) ?_
  refine k_callX (va_runV (As := [.int (nI b)]) (rest := []) ⟨hx, hb, hml, hown, hts⟩ (c_X4_isBranch_y l D g b0 H μ (sV σ) (sB σ) nC x hM hV4 hB4 hC4 b hb4) (cwV 1 hts gX4_branch_X4_isBranch rfl rfl rfl (by decide +kernel) ⟨Nat.le_of_ble_eq_true rfl, Nat.le_of_ble_eq_true rfl⟩) ⟨kPc_blind, k_recv hK hM.o rfl, fun U hU hW => kPc_at hK hU hW⟩ rfl rfl hl.1 rfl (lv_room (Nat.le_of_ble_eq_true rfl)) dX4_branch_7 ⟨Nat.le_of_ble_eq_true rfl, Nat.le_of_ble_eq_true rfl⟩) ?_
  refine z_if_ne (tgt := 15) hx hb dX4_branch_10 (by decide) (fun _ => ?_) (fun h => by cases h)
  refine lv_aload_n hx hb dX4_branch_15 rfl (lv_at hl 0 rfl) ?_
  refine k_get (ci := 4) (C := RX4) (T := TX4) (N := 13) (v := .int (nI (sB σ))) hx hb hts (by decide +kernel) hown hK hM.o rfl 5 (by decide) rfl (hts (.fieldLink RX4 47 RX4 "branches" "I") (by decide +kernel)) rfl dX4_branch_16 ?_
  refine lv_bipush (v := nI 40) hx hb dX4_branch_19 (by decide +kernel) ?_
  refine n_icmp_eq (tgt := 39) hx hb dX4_branch_21 (by decide) (by omega) (by omega) (fun c_887 => ?_) (fun c_887 => ?_)
  · skip
    refine lv_bipush (v := (-4)) hx hb dX4_branch_39 (by decide +kernel) ?_
    have hS1 : ∀ r0 σ', SpBranch σ (nI b) r0 σ' → r0 = -4 ∧ σ' = σ := by
      intro r0 σ' hS
      rcases hS.y hWF hb4 with ⟨-, z⟩ | ⟨z, -⟩
      · exact z
      · omega
    exact r_iI hx hb hr LB.nil (Nat.le_refl _) (Nat.le_refl _) (fun r0 σ' hS => by
      obtain ⟨e1, e2⟩ := hS1 _ _ hS
      subst e2
      exact ⟨e1.symm, _, _, hM, hR, hMK, MFr.rf⟩) dX4_branch_41 hlocks
  · skip
    refine lv_iload_n hx hb dX4_branch_24 rfl (lv_at hl 1 rfl) ?_
    refine lv_iconst (v := (-1)) hx hb dX4_branch_25 (by decide +kernel) ?_
    refine lv_icmp_ne (tgt := 42) hx hb dX4_branch_26 (by decide) (fun _ => ?_) (fun q => absurd q hn1)
    refine lv_iload_n hx hb dX4_branch_42 rfl (lv_at hl 1 rfl) ?_
    refine lv_iconst (v := (-1)) hx hb dX4_branch_43 (by decide +kernel) ?_
    refine lv_icmp_ne (tgt := 52) hx hb dX4_branch_44 (by decide) (fun _ => ?_) (fun q => absurd q hn1)
    refine lv_aload_n hx hb dX4_branch_52 rfl (lv_at hl 0 rfl) ?_
    refine k_get (ci := 4) (C := RX4) (T := TX4) (N := 13) (v := .ref (μ 4)) hx hb hts (by decide +kernel) hown hK hM.o rfl 4 (by decide) rfl (hts (.fieldLink RX4 21 RX4 "heads" "[I") (by decide +kernel)) rfl dX4_branch_53 ?_
    refine lv_aload_n hx hb dX4_branch_56 rfl (lv_at hl 0 rfl) ?_
    refine k_get (ci := 4) (C := RX4) (T := TX4) (N := 13) (v := .int (nI (sB σ))) hx hb hts (by decide +kernel) hown hK hM.o rfl 5 (by decide) rfl (hts (.fieldLink RX4 47 RX4 "branches" "I") (by decide +kernel)) rfl dX4_branch_57 ?_
    refine lv_iload_n hx hb dX4_branch_60 rfl (lv_at hl 1 rfl) ?_
    refine lv_iconst (v := (-1)) hx hb dX4_branch_61 (by decide +kernel) ?_
    refine lv_icmp_ne (tgt := 74) hx hb dX4_branch_62 (by decide) (fun _ => ?_) (fun q => absurd q hn1)
    refine lv_aload_n hx hb dX4_branch_74 rfl (lv_at hl 0 rfl) ?_
    refine k_get (ci := 4) (C := RX4) (T := TX4) (N := 13) (v := .ref (μ 4)) hx hb hts (by decide +kernel) hown hK hM.o rfl 4 (by decide) rfl (hts (.fieldLink RX4 21 RX4 "heads" "[I") (by decide +kernel)) rfl dX4_branch_75 ?_
    refine lv_iload_n hx hb dX4_branch_78 rfl (lv_at hl 1 rfl) ?_
    refine k_iald hx hb hK hM.a4 (b) rfl (by omega) (by omega) dX4_branch_79 ?_
    rw [show x 4 (b) = nI (sH σ b) from (hR.2.2.2.2 b hb4)]
    refine k_iast hx hb hK hM.a4 LB.nil (hM.ge (by omega)) (sB σ) rfl (by omega) (by omega) dX4_branch_80 (fun H_888 locs_889 hw_890 hC_891 hLB_892 => ?_)
    have hM_893 := hM.set (c := 4) (by omega) (by omega) (f := (upd (x 4) (sB σ) (nI (sH σ b)))) hw_890 hC_891
    refine lv_aload_n hx hb dX4_branch_81 rfl (lv_at hl 0 rfl) ?_
    refine lv_dup hx hb dX4_branch_82 rfl ?_
    refine k_get (ci := 4) (C := RX4) (T := TX4) (N := 13) (v := .int (nI (sB σ))) hx hb hts (by decide +kernel) hown hK hM_893.o rfl 5 (by decide) rfl (hts (.fieldLink RX4 47 RX4 "branches" "I") (by decide +kernel)) rfl dX4_branch_83 ?_
    refine lv_iconst (v := nI 1) hx hb dX4_branch_86 (by decide +kernel) ?_
    refine lv_iadd hx hb dX4_branch_87 ?_
    refine lv_topi (nm_r (show (nI (sB σ)) + (nI 1) = nI (sB σ + 1) from nI_add _ _) ?_)
    refine k_put (ci := 4) (T := TX4) (N := 13) (v := .int (nI (sB σ + 1))) hx hb hts (by decide +kernel) tyX4 tyX4_ok nmX4 hown hK hM_893.o hLB_892 (hM_893.ge (by omega)) rfl 5 (by decide) rfl (hts (.fieldLink RX4 47 RX4 "branches" "I") (by decide +kernel)) rfl (ty := .int) (by decide +kernel) rfl rfl (Nat.le_of_ble_eq_true rfl) dX4_branch_88 (fun H_894 locs_895 ho_896 hC_897 hLB_898 => ?_)
    have hM_899 := hM_893.num (nV' := sV σ) (nB' := sB σ + 1) (nC' := nC) ho_896 hC_897
    refine lv_aload_n hx hb dX4_branch_91 rfl (lv_at hl 0 rfl) ?_
    refine k_get (ci := 4) (C := RX4) (T := TX4) (N := 13) (v := .int (nI (sB σ + 1))) hx hb hts (by decide +kernel) hown hK hM_899.o rfl 5 (by decide) rfl (hts (.fieldLink RX4 47 RX4 "branches" "I") (by decide +kernel)) rfl dX4_branch_92 ?_
    refine lv_iconst (v := nI 1) hx hb dX4_branch_95 (by decide +kernel) ?_
    refine lv_isub hx hb dX4_branch_96 ?_
    refine lv_topi (nm_r (show (nI (sB σ + 1)) - (nI 1) = nI (sB σ) from nI_pred _) ?_)
    refine r_iI hx hb hr hLB_898 (Nat.le_refl _) (Nat.le_refl _) (fun r0 σ' hS => ?_) dX4_branch_97 hlocks
    rcases hS.y hWF hb4 with ⟨z, -⟩ | ⟨hB, hr0, hs⟩
    · omega
    · subst hs
      exact ⟨hr0.symm, _, _, hM_899, hR.br hB hhd, hMK.keep rfl (fun c hc => up_ne _ _ (by omega)), (MFr.chg (by omega) hC_891).tr (MFr.chg (by omega) hC_897)⟩
set_option maxHeartbeats 4000000 in
set_option maxRecDepth 100000 in
/-- branch_m -/
theorem c_X4_branch_m (l : Launch) (D : va_G) (g : Nat → ClassId) (b0 : Nat) (H : Heap) (μ : Nat → Nat) (σ : SG) (nC : Nat) (x : Nat → Nat → Int32) (hM : MC D g b0 μ (sV σ) (sB σ) nC x H) (hR : MR σ x) (hMK : MK σ nC x)  : Met l yX4_branch wsX4_branch ({ frames := 2, cells := 0, slots := 0, locals := 44 } : Room) (kPc D g [.ref (μ 0), .int ((-1))] H) (kI (MPubQ D g b0 μ H (SpBranch σ (-1)))) 0 0 (kF b0) := by
  refine Met.ofW (cc := cX4_branch) (maxL := 2) (ret := (some .int)) (by decide) rfl ?_
  intro p e s m args below meth c s₁ B hml hv
  obtain ⟨rfl, hH, hK⟩ := hv
  have hx := B.exec
  have hb := B.bytes
  have hr := B.returns
  have hts := atoms_spec (ws := wsX4_branch) B.pre
  have hown : s.vm.findClass RX4 = some m.cls := findClass_of_methodNamed B.named
  have hlocks := B.notSynchronized
  rw [hH]
  have hl := lv_entry ([.ref (μ 0), .int ((-1))]) (n := 2) (Nat.le_of_ble_eq_true rfl)
  rw [lg_entry_eq]
  generalize (lg_sl ([.ref (μ 0), .int ((-1))]) ++ List.replicate (2 - (lg_sl ([.ref (μ 0), .int ((-1))])).length) Slot.unset).toArray = ls at hl ⊢
  have hl : lv_has ls 2 [(0, .ref (μ 0)), (1, .int ((-1)))] := hl
  have hWF := hR.1
  have hV4 : sV σ ≤ 400 := hWF.2.1
  have hB4 : sB σ ≤ 40 := hWF.2.2.2.1
  have hC4 : nC ≤ 64 := hMK.le
  refine lv_iload_n hx hb dX4_branch_0 rfl (lv_at hl 1 rfl) ?_
  refine lv_iconst (v := (-1)) hx hb dX4_branch_1 (by decide +kernel) ?_
  refine lv_icmp_eq (tgt := 15) hx hb dX4_branch_2 (by decide) (fun _ => ?_) (fun q => absurd rfl q)
  refine lv_aload_n hx hb dX4_branch_15 rfl (lv_at hl 0 rfl) ?_
  refine k_get (ci := 4) (C := RX4) (T := TX4) (N := 13) (v := .int (nI (sB σ))) hx hb hts (by decide +kernel) hown hK hM.o rfl 5 (by decide) rfl (hts (.fieldLink RX4 47 RX4 "branches" "I") (by decide +kernel)) rfl dX4_branch_16 ?_
  refine lv_bipush (v := nI 40) hx hb dX4_branch_19 (by decide +kernel) ?_
  refine n_icmp_eq (tgt := 39) hx hb dX4_branch_21 (by decide) (by omega) (by omega) (fun c_900 => ?_) (fun c_900 => ?_)
  · skip
    refine lv_bipush (v := (-4)) hx hb dX4_branch_39 (by decide +kernel) ?_
    have hS1 : ∀ r0 σ', SpBranch σ (-1) r0 σ' → r0 = -4 ∧ σ' = σ := by
      intro r0 σ' hS
      rcases hS.m hWF with ⟨-, z⟩ | ⟨z, z2, -⟩
      · exact z
      · omega
    exact r_iI hx hb hr LB.nil (Nat.le_refl _) (Nat.le_refl _) (fun r0 σ' hS => by
      obtain ⟨e1, e2⟩ := hS1 _ _ hS
      subst e2
      exact ⟨e1.symm, _, _, hM, hR, hMK, MFr.rf⟩) dX4_branch_41 hlocks
  · skip
    refine lv_iload_n hx hb dX4_branch_24 rfl (lv_at hl 1 rfl) ?_
    refine lv_iconst (v := (-1)) hx hb dX4_branch_25 (by decide +kernel) ?_
    refine lv_icmp_ne (tgt := 42) hx hb dX4_branch_26 (by decide) (fun q => absurd rfl q) (fun _ => ?_)
    refine lv_aload_n hx hb dX4_branch_29 rfl (lv_at hl 0 rfl) ?_
    refine k_get (ci := 4) (C := RX4) (T := TX4) (N := 13) (v := .int (nI (sV σ))) hx hb hts (by decide +kernel) hown hK hM.o rfl 3 (by decide) rfl (hts (.fieldLink RX4 43 RX4 "versions" "I") (by decide +kernel)) rfl dX4_branch_30 ?_
    refine lv_sipush (v := nI 400) hx hb dX4_branch_33 (by decide +kernel) ?_
    refine n_icmp_ne (tgt := 42) hx hb dX4_branch_36 (by decide) (by omega) (by omega) (fun c_901 => ?_) (fun c_901 => ?_)
    · skip
      refine lv_iload_n hx hb dX4_branch_42 rfl (lv_at hl 1 rfl) ?_
      refine lv_iconst (v := (-1)) hx hb dX4_branch_43 (by decide +kernel) ?_
      refine lv_icmp_ne (tgt := 52) hx hb dX4_branch_44 (by decide) (fun q => absurd rfl q) (fun _ => ?_)
      refine lv_aload_n hx hb dX4_branch_47 rfl (lv_at hl 0 rfl) ?_
      refine lv_iconst (v := (-1)) hx hb dX4_branch_48 (by decide +kernel) ?_
      refine k_callU (va_runV (As := [.int ((-1))]) (rest := []) ⟨hx, hb, hml, hown, hts⟩ (c_X4_take l D g b0 H μ (sV σ) (sB σ) nC x hM hV4 hB4 hC4 (none) (fun _ => false) (fun u hu => rfl)) (cwV 1 hts gX4_branch_X4_take rfl rfl rfl (by decide +kernel) ⟨Nat.le_of_ble_eq_true rfl, Nat.le_of_ble_eq_true rfl⟩) ⟨kPc_blind, k_recv hK hM.o rfl, fun U hU hW => kPc_at hK hU hW⟩ rfl rfl hl.1 rfl (lv_room (Nat.le_of_ble_eq_true rfl)) dX4_branch_49 ⟨Nat.le_of_ble_eq_true rfl, Nat.le_of_ble_eq_true rfl⟩) LB.nil (fun H1 locs1 hLB1 hq1 => ?_)
      obtain ⟨h1, hM1, hF1, hh1⟩ := hq1
      refine lv_aload_n hx hb dX4_branch_52 rfl (lv_at hl 0 rfl) ?_
      refine k_get (ci := 4) (C := RX4) (T := TX4) (N := 13) (v := .ref (μ 4)) hx hb hts (by decide +kernel) hown hK hM1.o rfl 4 (by decide) rfl (hts (.fieldLink RX4 21 RX4 "heads" "[I") (by decide +kernel)) rfl dX4_branch_53 ?_
      refine lv_aload_n hx hb dX4_branch_56 rfl (lv_at hl 0 rfl) ?_
      refine k_get (ci := 4) (C := RX4) (T := TX4) (N := 13) (v := .int (nI (sB σ))) hx hb hts (by decide +kernel) hown hK hM1.o rfl 5 (by decide) rfl (hts (.fieldLink RX4 47 RX4 "branches" "I") (by decide +kernel)) rfl dX4_branch_57 ?_
      refine lv_iload_n hx hb dX4_branch_60 rfl (lv_at hl 1 rfl) ?_
      refine lv_iconst (v := (-1)) hx hb dX4_branch_61 (by decide +kernel) ?_
      refine lv_icmp_ne (tgt := 74) hx hb dX4_branch_62 (by decide) (fun q => absurd rfl q) (fun _ => ?_)
      refine lv_aload_n hx hb dX4_branch_65 rfl (lv_at hl 0 rfl) ?_
      refine lv_iconst (v := (-1)) hx hb dX4_branch_66 (by decide +kernel) ?_
      refine lv_iconst (v := (-1)) hx hb dX4_branch_67 (by decide +kernel) ?_
      have hV : sV σ < 400 := by omega
      refine k_callI (va_runV (As := [.int ((-1)), .int ((-1))]) (rest := [.int (nI (sB σ)), .ref (μ 4)]) ⟨hx, hb, hml, hown, hts⟩ (c_X4_grow l D g b0 H1 μ (sV σ) (sB σ) nC (va_up x 7 h1) hM1 hV4 hB4 hC4 hV (-1) (-1) (fun _ => false) (fun t ht => by rw [up_eq]; exact hh1 t ht)) (cwV 2 hts gX4_branch_X4_grow rfl rfl rfl (by decide +kernel) ⟨Nat.le_of_ble_eq_true rfl, Nat.le_of_ble_eq_true rfl⟩) ⟨kPc_blind, k_recv hK hM1.o rfl, fun U hU hW => kPc_at hK hU hW⟩ rfl rfl hl.1 rfl (lv_room (Nat.le_of_ble_eq_true rfl)) dX4_branch_68 ⟨Nat.le_of_ble_eq_true rfl, Nat.le_of_ble_eq_true rfl⟩) hLB1 (fun rg H2 locs2 hLB2 hq2 => ?_)
      obtain ⟨rfl, s1, hM2, hF2, hs1, hs2⟩ := hq2
      refine lv_goto (tgt := 80) hx hb dX4_branch_71 (by decide) ?_
      refine k_iast hx hb hK hM2.a4 hLB2 (hM2.ge (by omega)) (sB σ) rfl (by omega) (by omega) dX4_branch_80 (fun H_902 locs_903 hw_904 hC_905 hLB_906 => ?_)
      have hM_907 := hM2.set (c := 4) (by omega) (by omega) (f := (upd ((va_up (va_up (va_up (va_up x 7 h1) 2 (upd ((va_up x 7 h1) 2) (sV σ) (-1))) 3 (upd ((va_up x 7 h1) 3) (sV σ) (-1))) 1 s1) 4) (sB σ) (nI (sV σ)))) hw_904 hC_905
      refine lv_aload_n hx hb dX4_branch_81 rfl (lv_at hl 0 rfl) ?_
      refine lv_dup hx hb dX4_branch_82 rfl ?_
      refine k_get (ci := 4) (C := RX4) (T := TX4) (N := 13) (v := .int (nI (sB σ))) hx hb hts (by decide +kernel) hown hK hM_907.o rfl 5 (by decide) rfl (hts (.fieldLink RX4 47 RX4 "branches" "I") (by decide +kernel)) rfl dX4_branch_83 ?_
      refine lv_iconst (v := nI 1) hx hb dX4_branch_86 (by decide +kernel) ?_
      refine lv_iadd hx hb dX4_branch_87 ?_
      refine lv_topi (nm_r (show (nI (sB σ)) + (nI 1) = nI (sB σ + 1) from nI_add _ _) ?_)
      refine k_put (ci := 4) (T := TX4) (N := 13) (v := .int (nI (sB σ + 1))) hx hb hts (by decide +kernel) tyX4 tyX4_ok nmX4 hown hK hM_907.o hLB_906 (hM_907.ge (by omega)) rfl 5 (by decide) rfl (hts (.fieldLink RX4 47 RX4 "branches" "I") (by decide +kernel)) rfl (ty := .int) (by decide +kernel) rfl rfl (Nat.le_of_ble_eq_true rfl) dX4_branch_88 (fun H_908 locs_909 ho_910 hC_911 hLB_912 => ?_)
      have hM_913 := hM_907.num (nV' := sV σ + 1) (nB' := sB σ + 1) (nC' := nC) ho_910 hC_911
      refine lv_aload_n hx hb dX4_branch_91 rfl (lv_at hl 0 rfl) ?_
      refine k_get (ci := 4) (C := RX4) (T := TX4) (N := 13) (v := .int (nI (sB σ + 1))) hx hb hts (by decide +kernel) hown hK hM_913.o rfl 5 (by decide) rfl (hts (.fieldLink RX4 47 RX4 "branches" "I") (by decide +kernel)) rfl dX4_branch_92 ?_
      refine lv_iconst (v := nI 1) hx hb dX4_branch_95 (by decide +kernel) ?_
      refine lv_isub hx hb dX4_branch_96 ?_
      refine lv_topi (nm_r (show (nI (sB σ + 1)) - (nI 1) = nI (sB σ) from nI_pred _) ?_)
      refine r_iI hx hb hr hLB_912 (Nat.le_refl _) (Nat.le_refl _) (fun r0 σ' hS => ?_) dX4_branch_97 hlocks
      rcases hS.m hWF with ⟨z, -⟩ | ⟨hB, -, hr0, w, an, hs, hZ, han⟩
      · omega
      · subst hs
        have hg := MR.grow (f := none) (s := none) (w := w) (an := an) (s1 := s1) (hR.up (c := 7) (by omega) h1) hV (fun p hp => by cases hp) (fun p hp => by cases hp) han (fun t ht => by rw [hs1 t ht, Zer_bt hZ ht]) hs2
        have hg2 := hg.br (v := sV σ) hB (Nat.lt_succ_self _)
        exact ⟨hr0.symm, _, _, hM_913, hg2, hMK.keep rfl (fun c hc => by rw [up_ne _ _ (by omega), up_ne _ _ (by omega), up_ne _ _ (by omega), up_ne _ _ (by omega), up_ne _ _ (by omega)]), ((hF1.tr hF2).tr (MFr.chg (by omega) hC_905)).tr (MFr.chg (by omega) hC_911)⟩
    · skip
      refine lv_bipush (v := (-4)) hx hb dX4_branch_39 (by decide +kernel) ?_
      have hS1 : ∀ r0 σ', SpBranch σ (-1) r0 σ' → r0 = -4 ∧ σ' = σ := by
        intro r0 σ' hS
        rcases hS.m hWF with ⟨-, z⟩ | ⟨z, z2, -⟩
        · exact z
        · omega
      exact r_iI hx hb hr LB.nil (Nat.le_refl _) (Nat.le_refl _) (fun r0 σ' hS => by
        obtain ⟨e1, e2⟩ := hS1 _ _ hS
        subst e2
        exact ⟨e1.symm, _, _, hM, hR, hMK, MFr.rf⟩) dX4_branch_41 hlocks
theorem c_X4_branch (l : Launch) (D : va_G) (g : Nat → ClassId) (b0 : Nat) (H : Heap) (μ : Nat → Nat) (σ : SG) (nC : Nat) (x : Nat → Nat → Int32) (hM : MC D g b0 μ (sV σ) (sB σ) nC x H) (hR : MR σ x) (hMK : MK σ nC x) (i : Int32) : Met l yX4_branch wsX4_branch ({ frames := 2, cells := 0, slots := 0, locals := 44 } : Room) (kPc D g [.ref (μ 0), .int i] H) (kI (MPubQ D g b0 μ H (SpBranch σ i))) 0 0 (kF b0) := by
  rcases br_dec σ i with h | ⟨b, hb4, rfl⟩
  · by_cases e : i = -1
    · subst e; exact c_X4_branch_m l D g b0 H μ σ nC x hM hR hMK
    · exact c_X4_branch_n l D g b0 H μ σ nC x hM hR hMK i h e
  · exact c_X4_branch_y l D g b0 H μ σ nC x hM hR hMK b hb4

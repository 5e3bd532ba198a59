/-! 25: the reference: the calls that read (laid by wip/gen/mod25.py) -/
theorem nI_nle0 (n : Nat) (h0 : 0 < n := by decide) (hn : n < 2 ^ 31 := by decide) : ¬ nI n ≤ nI 0 := fun q => by
  have := (nI_leI hn (by decide)).mp q
  omega
theorem crowd_two {p : Nat → Bool} {k : Nat} (h : crowd p k = true) : 2 ≤ cnt (fun o => p (16 * k + o)) 16 := by
  unfold crowd at h
  rw [Bool.and_eq_true] at h
  exact of_decide_eq_true h.2
set_option maxHeartbeats 4000000 in
set_option maxRecDepth 100000 in
/-- head_n -/
theorem c_X4_head_n (l : Launch) (D : va_G) (g : Nat → ClassId) (b0 : Nat) (H : Heap) (μ : Nat → Nat) (σ : SG) (nC : Nat) (x : Nat → Nat → Int32) (hM : MC D g b0 μ (sV σ) (sB σ) nC x H) (hR : MR σ x) (hMK : MK σ nC x) (bi : Int32) (hN : BrN σ bi) : Met l yX4_head wsX4_head ({ frames := 1, cells := 0, slots := 0, locals := 21 } : Room) (kPc D g [.ref (μ 0), .int (bi)] H) (kI (fun r H1 => SpHead σ bi r σ ∧ MPost D g b0 μ H σ H1)) 0 0 (kF b0) := by
  refine Met.ofW (cc := cX4_head) (maxL := 2) (ret := (some .int)) (by decide) rfl ?_
  intro p e s m args below meth c s₁ B hml hv
  obtain ⟨rfl, hH, hK⟩ := hv
  have hx := B.exec
  have hb := B.bytes
  have hr := B.returns
  have hts := atoms_spec (ws := wsX4_head) B.pre
  have hown : s.vm.findClass RX4 = some m.cls := findClass_of_methodNamed B.named
  have hlocks := B.notSynchronized
  rw [hH]
  have hl := lv_entry ([.ref (μ 0), .int (bi)]) (n := 2) (Nat.le_of_ble_eq_true rfl)
  rw [lg_entry_eq]
  generalize (lg_sl ([.ref (μ 0), .int (bi)]) ++ List.replicate (2 - (lg_sl ([.ref (μ 0), .int (bi)])).length) Slot.unset).toArray = ls at hl ⊢
  have hl : lv_has ls 2 [(0, .ref (μ 0)), (1, .int (bi))] := hl
  have hWF := hR.1
  have hV4 : sV σ ≤ 400 := hWF.2.1
  have hB4 : sB σ ≤ 40 := hWF.2.2.2.1
  have hC4 : nC ≤ 64 := hMK.le
  refine lv_aload_n hx hb dX4_head_0 rfl (lv_at hl 0 rfl) ?_
  refine lv_iload_n hx hb dX4_head_1 rfl (lv_at hl 1 rfl) ?_
  refine k_callX (va_runV (As := [.int (bi)]) (rest := []) ⟨hx, hb, hml, hown, hts⟩ (c_X4_isBranch_n l D g b0 H μ (sV σ) (sB σ) nC x hM hV4 hB4 hC4 bi hN) (cwV 1 hts gX4_head_X4_isBranch rfl rfl rfl (by decide +kernel) ⟨Nat.le_of_ble_eq_true rfl, Nat.le_of_ble_eq_true rfl⟩) ⟨kPc_blind, k_recv hK hM.o rfl, fun U hU hW => kPc_at hK hU hW⟩ rfl rfl hl.1 rfl (lv_room (Nat.le_of_ble_eq_true rfl)) dX4_head_2 ⟨Nat.le_of_ble_eq_true rfl, Nat.le_of_ble_eq_true rfl⟩) ?_
  refine z_if_eq (tgt := 17) hx hb dX4_head_5 (by decide) (fun _ => ?_) (fun h => by cases h)
  refine lv_iconst (v := (-1)) hx hb dX4_head_17 (by decide +kernel) ?_
  exact r_iI hx hb hr LB.nil (Nat.le_refl _) (Nat.le_refl _) ⟨⟨rfl, Or.inl ⟨hN, rfl⟩⟩, _, _, hM, hR, hMK, MFr.rf⟩ dX4_head_18 hlocks
set_option maxHeartbeats 4000000 in
set_option maxRecDepth 100000 in
/-- head_y -/
theorem c_X4_head_y (l : Launch) (D : va_G) (g : Nat → ClassId) (b0 : Nat) (H : Heap) (μ : Nat → Nat) (σ : SG) (nC : Nat) (x : Nat → Nat → Int32) (hM : MC D g b0 μ (sV σ) (sB σ) nC x H) (hR : MR σ x) (hMK : MK σ nC x) (b : Nat) (hb4 : b < sB σ) : Met l yX4_head wsX4_head ({ frames := 1, cells := 0, slots := 0, locals := 21 } : Room) (kPc D g [.ref (μ 0), .int (nI b)] H) (kI (fun r H1 => SpHead σ (nI b) r σ ∧ MPost D g b0 μ H σ H1)) 0 0 (kF b0) := by
  refine Met.ofW (cc := cX4_head) (maxL := 2) (ret := (some .int)) (by decide) rfl ?_
  intro p e s m args below meth c s₁ B hml hv
  obtain ⟨rfl, hH, hK⟩ := hv
  have hx := B.exec
  have hb := B.bytes
  have hr := B.returns
  have hts := atoms_spec (ws := wsX4_head) B.pre
  have hown : s.vm.findClass RX4 = some m.cls := findClass_of_methodNamed B.named
  have hlocks := B.notSynchronized
  rw [hH]
  have hl := lv_entry ([.ref (μ 0), .int (nI b)]) (n := 2) (Nat.le_of_ble_eq_true rfl)
  rw [lg_entry_eq]
  generalize (lg_sl ([.ref (μ 0), .int (nI b)]) ++ List.replicate (2 - (lg_sl ([.ref (μ 0), .int (nI b)])).length) Slot.unset).toArray = ls at hl ⊢
  have hl : lv_has ls 2 [(0, .ref (μ 0)), (1, .int (nI b))] := hl
  have hWF := hR.1
  have hV4 : sV σ ≤ 400 := hWF.2.1
  have hB4 : sB σ ≤ 40 := hWF.2.2.2.1
  have hC4 : nC ≤ 64 := hMK.le
  refine lv_aload_n hx hb dX4_head_0 rfl (lv_at hl 0 rfl) ?_
  refine lv_iload_n hx hb dX4_head_1 rfl (lv_at hl 1 rfl) ?_
  refine k_callX (va_runV (As := [.int (nI b)]) (rest := []) ⟨hx, hb, hml, hown, hts⟩ (c_X4_isBranch_y l D g b0 H μ (sV σ) (sB σ) nC x hM hV4 hB4 hC4 b hb4) (cwV 1 hts gX4_head_X4_isBranch rfl rfl rfl (by decide +kernel) ⟨Nat.le_of_ble_eq_true rfl, Nat.le_of_ble_eq_true rfl⟩) ⟨kPc_blind, k_recv hK hM.o rfl, fun U hU hW => kPc_at hK hU hW⟩ rfl rfl hl.1 rfl (lv_room (Nat.le_of_ble_eq_true rfl)) dX4_head_2 ⟨Nat.le_of_ble_eq_true rfl, Nat.le_of_ble_eq_true rfl⟩) ?_
  refine z_if_eq (tgt := 17) hx hb dX4_head_5 (by decide) (fun h => by cases h) (fun _ => ?_)
  refine lv_aload_n hx hb dX4_head_8 rfl (lv_at hl 0 rfl) ?_
  refine k_get (ci := 4) (C := RX4) (T := TX4) (N := 13) (v := .ref (μ 4)) hx hb hts (by decide +kernel) hown hK hM.o rfl 4 (by decide) rfl (hts (.fieldLink RX4 21 RX4 "heads" "[I") (by decide +kernel)) rfl dX4_head_9 ?_
  refine lv_iload_n hx hb dX4_head_12 rfl (lv_at hl 1 rfl) ?_
  refine k_iald hx hb hK hM.a4 (b) rfl (by omega) (by omega) dX4_head_13 ?_
  rw [show x 4 (b) = nI (sH σ b) from (hR.2.2.2.2 b hb4)]
  refine lv_goto (tgt := 18) hx hb dX4_head_14 (by decide) ?_
  exact r_iI hx hb hr LB.nil (Nat.le_refl _) (Nat.le_refl _) ⟨⟨rfl, Or.inr ⟨b, hb4, rfl, rfl⟩⟩, _, _, hM, hR, hMK, MFr.rf⟩ dX4_head_18 hlocks
theorem c_X4_head (l : Launch) (D : va_G) (g : Nat → ClassId) (b0 : Nat) (H : Heap) (μ : Nat → Nat) (σ : SG) (nC : Nat) (x : Nat → Nat → Int32) (hM : MC D g b0 μ (sV σ) (sB σ) nC x H) (hR : MR σ x) (hMK : MK σ nC x) (bi : Int32) : Met l yX4_head wsX4_head ({ frames := 1, cells := 0, slots := 0, locals := 21 } : Room) (kPc D g [.ref (μ 0), .int bi] H) (kI (fun r H1 => SpHead σ bi r σ ∧ MPost D g b0 μ H σ H1)) 0 0 (kF b0) := by
  rcases br_dec σ bi with h | ⟨b, hb4, rfl⟩
  · exact c_X4_head_n l D g b0 H μ σ nC x hM hR hMK bi h
  · exact c_X4_head_y l D g b0 H μ σ nC x hM hR hMK b hb4
set_option maxHeartbeats 4000000 in
set_option maxRecDepth 100000 in
/-- base_n1 -/
theorem c_X4_base_n1 (l : Launch) (D : va_G) (g : Nat → ClassId) (b0 : Nat) (H : Heap) (μ : Nat → Nat) (σ : SG) (nC : Nat) (x : Nat → Nat → Int32) (hM : MC D g b0 μ (sV σ) (sB σ) nC x H) (hR : MR σ x) (hMK : MK σ nC x) (ai bi : Int32) (hN : BrN σ ai) : Met l yX4_base wsX4_base ({ frames := 2, cells := 0, slots := 0, locals := 46 } : Room) (kPc D g [.ref (μ 0), .int (ai), .int (bi)] H) (kI (fun r H1 => SpBase σ ai bi r σ ∧ MPost D g b0 μ H σ H1)) 0 0 (kF b0) := by
  refine Met.ofW (cc := cX4_base) (maxL := 4) (ret := (some .int)) (by decide) rfl ?_
  intro p e s m args below meth c s₁ B hml hv
  obtain ⟨rfl, hH, hK⟩ := hv
  have hx := B.exec
  have hb := B.bytes
  have hr := B.returns
  have hts := atoms_spec (ws := wsX4_base) B.pre
  have hown : s.vm.findClass RX4 = some m.cls := findClass_of_methodNamed B.named
  have hlocks := B.notSynchronized
  rw [hH]
  have hl := lv_entry ([.ref (μ 0), .int (ai), .int (bi)]) (n := 4) (Nat.le_of_ble_eq_true rfl)
  rw [lg_entry_eq]
  generalize (lg_sl ([.ref (μ 0), .int (ai), .int (bi)]) ++ List.replicate (4 - (lg_sl ([.ref (μ 0), .int (ai), .int (bi)])).length) Slot.unset).toArray = ls at hl ⊢
  have hl : lv_has ls 4 [(0, .ref (μ 0)), (1, .int (ai)), (2, .int (bi))] := hl
  have hWF := hR.1
  have hV4 : sV σ ≤ 400 := hWF.2.1
  have hB4 : sB σ ≤ 40 := hWF.2.2.2.1
  have hC4 : nC ≤ 64 := hMK.le
  refine lv_aload_n hx hb dX4_base_0 rfl (lv_at hl 0 rfl) ?_
  refine lv_iload_n hx hb dX4_base_1 rfl (lv_at hl 1 rfl) ?_
  refine k_callX (va_runV (As := [.int (ai)]) (rest := []) ⟨hx, hb, hml, hown, hts⟩ (c_X4_isBranch_n l D g b0 H μ (sV σ) (sB σ) nC x hM hV4 hB4 hC4 ai hN) (cwV 1 hts gX4_base_X4_isBranch rfl rfl rfl (by decide +kernel) ⟨Nat.le_of_ble_eq_true rfl, Nat.le_of_ble_eq_true rfl⟩) ⟨kPc_blind, k_recv hK hM.o rfl, fun U hU hW => kPc_at hK hU hW⟩ rfl rfl hl.1 rfl (lv_room (Nat.le_of_ble_eq_true rfl)) dX4_base_2 ⟨Nat.le_of_ble_eq_true rfl, Nat.le_of_ble_eq_true rfl⟩) ?_
  refine z_if_eq (tgt := 16) hx hb dX4_base_5 (by decide) (fun _ => ?_) (fun h => by cases h)
  refine lv_iconst (v := (-1)) hx hb dX4_base_16 (by decide +kernel) ?_
  exact r_iI hx hb hr LB.nil (Nat.le_refl _) (Nat.le_refl _) ⟨⟨rfl, Or.inl ⟨Or.inl hN, rfl⟩⟩, _, _, hM, hR, hMK, MFr.rf⟩ dX4_base_17 hlocks
set_option maxHeartbeats 4000000 in
set_option maxRecDepth 100000 in
/-- base_n2 -/
theorem c_X4_base_n2 (l : Launch) (D : va_G) (g : Nat → ClassId) (b0 : Nat) (H : Heap) (μ : Nat → Nat) (σ : SG) (nC : Nat) (x : Nat → Nat → Int32) (hM : MC D g b0 μ (sV σ) (sB σ) nC x H) (hR : MR σ x) (hMK : MK σ nC x) (a : Nat) (ha4 : a < sB σ) (bi : Int32) (hN : BrN σ bi) : Met l yX4_base wsX4_base ({ frames := 2, cells := 0, slots := 0, locals := 46 } : Room) (kPc D g [.ref (μ 0), .int (nI a), .int (bi)] H) (kI (fun r H1 => SpBase σ (nI a) bi r σ ∧ MPost D g b0 μ H σ H1)) 0 0 (kF b0) := by
  refine Met.ofW (cc := cX4_base) (maxL := 4) (ret := (some .int)) (by decide) rfl ?_
  intro p e s m args below meth c s₁ B hml hv
  obtain ⟨rfl, hH, hK⟩ := hv
  have hx := B.exec
  have hb := B.bytes
  have hr := B.returns
  have hts := atoms_spec (ws := wsX4_base) B.pre
  have hown : s.vm.findClass RX4 = some m.cls := findClass_of_methodNamed B.named
  have hlocks := B.notSynchronized
  rw [hH]
  have hl := lv_entry ([.ref (μ 0), .int (nI a), .int (bi)]) (n := 4) (Nat.le_of_ble_eq_true rfl)
  rw [lg_entry_eq]
  generalize (lg_sl ([.ref (μ 0), .int (nI a), .int (bi)]) ++ List.replicate (4 - (lg_sl ([.ref (μ 0), .int (nI a), .int (bi)])).length) Slot.unset).toArray = ls at hl ⊢
  have hl : lv_has ls 4 [(0, .ref (μ 0)), (1, .int (nI a)), (2, .int (bi))] := hl
  have hWF := hR.1
  have hV4 : sV σ ≤ 400 := hWF.2.1
  have hB4 : sB σ ≤ 40 := hWF.2.2.2.1
  have hC4 : nC ≤ 64 := hMK.le
  refine lv_aload_n hx hb dX4_base_0 rfl (lv_at hl 0 rfl) ?_
  refine lv_iload_n hx hb dX4_base_1 rfl (lv_at hl 1 rfl) ?_
  refine k_callX (va_runV (As := [.int (nI a)]) (rest := []) ⟨hx, hb, hml, hown, hts⟩ (c_X4_isBranch_y l D g b0 H μ (sV σ) (sB σ) nC x hM hV4 hB4 hC4 a ha4) (cwV 1 hts gX4_base_X4_isBranch rfl rfl rfl (by decide +kernel) ⟨Nat.le_of_ble_eq_true rfl, Nat.le_of_ble_eq_true rfl⟩) ⟨kPc_blind, k_recv hK hM.o rfl, fun U hU hW => kPc_at hK hU hW⟩ rfl rfl hl.1 rfl (lv_room (Nat.le_of_ble_eq_true rfl)) dX4_base_2 ⟨Nat.le_of_ble_eq_true rfl, Nat.le_of_ble_eq_true rfl⟩) ?_
  refine z_if_eq (tgt := 16) hx hb dX4_base_5 (by decide) (fun h => by cases h) (fun _ => ?_)
  refine lv_aload_n hx hb dX4_base_8 rfl (lv_at hl 0 rfl) ?_
  refine lv_iload_n hx hb dX4_base_9 rfl (lv_at hl 2 rfl) ?_
  refine k_callX (va_runV (As := [.int (bi)]) (rest := []) ⟨hx, hb, hml, hown, hts⟩ (c_X4_isBranch_n l D g b0 H μ (sV σ) (sB σ) nC x hM hV4 hB4 hC4 bi hN) (cwV 1 hts gX4_base_X4_isBranch rfl rfl rfl (by decide +kernel) ⟨Nat.le_of_ble_eq_true rfl, Nat.le_of_ble_eq_true rfl⟩) ⟨kPc_blind, k_recv hK hM.o rfl, fun U hU hW => kPc_at hK hU hW⟩ rfl rfl hl.1 rfl (lv_room (Nat.le_of_ble_eq_true rfl)) dX4_base_10 ⟨Nat.le_of_ble_eq_true rfl, Nat.le_of_ble_eq_true rfl⟩) ?_
  refine z_if_ne (tgt := 18) hx hb dX4_base_13 (by decide) (fun h => by cases h) (fun _ => ?_)
  refine lv_iconst (v := (-1)) hx hb dX4_base_16 (by decide +kernel) ?_
  exact r_iI hx hb hr LB.nil (Nat.le_refl _) (Nat.le_refl _) ⟨⟨rfl, Or.inl ⟨Or.inr hN, rfl⟩⟩, _, _, hM, hR, hMK, MFr.rf⟩ dX4_base_17 hlocks
set_option maxHeartbeats 4000000 in
set_option maxRecDepth 100000 in
/-- base_y0 -/
theorem c_X4_base_y0 (l : Launch) (D : va_G) (g : Nat → ClassId) (b0 : Nat) (H : Heap) (μ : Nat → Nat) (σ : SG) (nC : Nat) (x : Nat → Nat → Int32) (hM : MC D g b0 μ (sV σ) (sB σ) nC x H) (hR : MR σ x) (hMK : MK σ nC x) (a b : Nat) (ha4 : a < sB σ) (hb4 : b < sB σ) (hgc : GC0 σ (sH σ a) (sH σ b)) : Met l yX4_base wsX4_base ({ frames := 2, cells := 0, slots := 0, locals := 46 } : Room) (kPc D g [.ref (μ 0), .int (nI a), .int (nI b)] H) (kI (fun r H1 => SpBase σ (nI a) (nI b) r σ ∧ MPost D g b0 μ H σ H1)) 0 0 (kF b0) := by
  refine Met.ofW (cc := cX4_base) (maxL := 4) (ret := (some .int)) (by decide) rfl ?_
  intro p e s m args below meth c s₁ B hml hv
  obtain ⟨rfl, hH, hK⟩ := hv
  have hx := B.exec
  have hb := B.bytes
  have hr := B.returns
  have hts := atoms_spec (ws := wsX4_base) B.pre
  have hown : s.vm.findClass RX4 = some m.cls := findClass_of_methodNamed B.named
  have hlocks := B.notSynchronized
  rw [hH]
  have hl := lv_entry ([.ref (μ 0), .int (nI a), .int (nI b)]) (n := 4) (Nat.le_of_ble_eq_true rfl)
  rw [lg_entry_eq]
  generalize (lg_sl ([.ref (μ 0), .int (nI a), .int (nI b)]) ++ List.replicate (4 - (lg_sl ([.ref (μ 0), .int (nI a), .int (nI b)])).length) Slot.unset).toArray = ls at hl ⊢
  have hl : lv_has ls 4 [(0, .ref (μ 0)), (1, .int (nI a)), (2, .int (nI b))] := hl
  have hWF := hR.1
  have hV4 : sV σ ≤ 400 := hWF.2.1
  have hB4 : sB σ ≤ 40 := hWF.2.2.2.1
  have hC4 : nC ≤ 64 := hMK.le
  have hha := hWF.2.2.2.2.1 a ha4
  have hhb := hWF.2.2.2.2.1 b hb4
  refine lv_aload_n hx hb dX4_base_0 rfl (lv_at hl 0 rfl) ?_
  refine lv_iload_n hx hb dX4_base_1 rfl (lv_at hl 1 rfl) ?_
  refine k_callX (va_runV (As := [.int (nI a)]) (rest := []) ⟨hx, hb, hml, hown, hts⟩ (c_X4_isBranch_y l D g b0 H μ (sV σ) (sB σ) nC x hM hV4 hB4 hC4 a ha4) (cwV 1 hts gX4_base_X4_isBranch rfl rfl rfl (by decide +kernel) ⟨Nat.le_of_ble_eq_true rfl, Nat.le_of_ble_eq_true rfl⟩) ⟨kPc_blind, k_recv hK hM.o rfl, fun U hU hW => kPc_at hK hU hW⟩ rfl rfl hl.1 rfl (lv_room (Nat.le_of_ble_eq_true rfl)) dX4_base_2 ⟨Nat.le_of_ble_eq_true rfl, Nat.le_of_ble_eq_true rfl⟩) ?_
  refine z_if_eq (tgt := 16) hx hb dX4_base_5 (by decide) (fun h => by cases h) (fun _ => ?_)
  refine lv_aload_n hx hb dX4_base_8 rfl (lv_at hl 0 rfl) ?_
  refine lv_iload_n hx hb dX4_base_9 rfl (lv_at hl 2 rfl) ?_
  refine k_callX (va_runV (As := [.int (nI b)]) (rest := []) ⟨hx, hb, hml, hown, hts⟩ (c_X4_isBranch_y l D g b0 H μ (sV σ) (sB σ) nC x hM hV4 hB4 hC4 b hb4) (cwV 1 hts gX4_base_X4_isBranch rfl rfl rfl (by decide +kernel) ⟨Nat.le_of_ble_eq_true rfl, Nat.le_of_ble_eq_true rfl⟩) ⟨kPc_blind, k_recv hK hM.o rfl, fun U hU hW => kPc_at hK hU hW⟩ rfl rfl hl.1 rfl (lv_room (Nat.le_of_ble_eq_true rfl)) dX4_base_10 ⟨Nat.le_of_ble_eq_true rfl, Nat.le_of_ble_eq_true rfl⟩) ?_
  refine z_if_ne (tgt := 18) hx hb dX4_base_13 (by decide) (fun _ => ?_) (fun h => by cases h)
  refine lv_aload_n hx hb dX4_base_18 rfl (lv_at hl 0 rfl) ?_
  refine lv_aload_n hx hb dX4_base_19 rfl (lv_at hl 0 rfl) ?_
  refine k_get (ci := 4) (C := RX4) (T := TX4) (N := 13) (v := .ref (μ 4)) hx hb hts (by decide +kernel) hown hK hM.o rfl 4 (by decide) rfl (hts (.fieldLink RX4 21 RX4 "heads" "[I") (by decide +kernel)) rfl dX4_base_20 ?_
  refine lv_iload_n hx hb dX4_base_23 rfl (lv_at hl 1 rfl) ?_
  refine k_iald hx hb hK hM.a4 (a) rfl (by omega) (by omega) dX4_base_24 ?_
  rw [show x 4 (a) = nI (sH σ a) from (hR.2.2.2.2 a ha4)]
  refine lv_aload_n hx hb dX4_base_25 rfl (lv_at hl 0 rfl) ?_
  refine k_get (ci := 4) (C := RX4) (T := TX4) (N := 13) (v := .ref (μ 4)) hx hb hts (by decide +kernel) hown hK hM.o rfl 4 (by decide) rfl (hts (.fieldLink RX4 21 RX4 "heads" "[I") (by decide +kernel)) rfl dX4_base_26 ?_
  refine lv_iload_n hx hb dX4_base_29 rfl (lv_at hl 2 rfl) ?_
  refine k_iald hx hb hK hM.a4 (b) rfl (by omega) (by omega) dX4_base_30 ?_
  rw [show x 4 (b) = nI (sH σ b) from (hR.2.2.2.2 b hb4)]
  refine k_callI (va_runV (As := [.int (nI (sH σ a)), .int (nI (sH σ b))]) (rest := []) ⟨hx, hb, hml, hown, hts⟩ (c_X4_common l D g b0 H μ σ nC x hM hR hC4 (sH σ a) (sH σ b) hha hhb none (GCo.of0 hWF hgc)) (cwV 2 hts gX4_base_X4_common rfl rfl rfl (by decide +kernel) ⟨Nat.le_of_ble_eq_true rfl, Nat.le_of_ble_eq_true rfl⟩) ⟨kPc_blind, k_recv hK hM.o rfl, fun U hU hW => kPc_at hK hU hW⟩ rfl rfl hl.1 rfl (lv_room (Nat.le_of_ble_eq_true rfl)) dX4_base_31 ⟨Nat.le_of_ble_eq_true rfl, Nat.le_of_ble_eq_true rfl⟩) LB.nil (fun rc H1 locs1 hLB1 hq1 => ?_)
  obtain ⟨hrc, m1, m2, hM1, hF1⟩ := hq1
  have hrc1 : rc = -1 := hrc
  subst hrc1
  refine lv_istore_n (lv' := [(3, .int ((-1))), (0, .ref (μ 0)), (1, .int (nI a)), (2, .int (nI b))]) hx hb dX4_base_34 rfl hl (by decide) rfl (fun ls hl => ?_)
  refine lv_iload_n hx hb dX4_base_35 rfl (lv_at hl 0 rfl) ?_
  refine lv_if_ge (tgt := 44) hx hb dX4_base_36 (by decide) (fun q => absurd q (by decide)) (fun _ => ?_)
  refine lv_bipush (v := (-3)) hx hb dX4_base_39 (by decide +kernel) ?_
  refine lv_goto (tgt := 45) hx hb dX4_base_41 (by decide) ?_
  exact r_iI hx hb hr hLB1 (Nat.le_refl _) (Nat.le_refl _) ⟨⟨rfl, Or.inr ⟨a, b, ha4, hb4, rfl, rfl, Or.inl ⟨hgc, rfl⟩⟩⟩, _, _, hM1, ((hR.up (by omega) _).up (by omega) _), (hMK.keep rfl (fun c hc => by rw [up_ne _ _ (by omega), up_ne _ _ (by omega)])), hF1⟩ dX4_base_45 hlocks
set_option maxHeartbeats 4000000 in
set_option maxRecDepth 100000 in
/-- base_y1 -/
theorem c_X4_base_y1 (l : Launch) (D : va_G) (g : Nat → ClassId) (b0 : Nat) (H : Heap) (μ : Nat → Nat) (σ : SG) (nC : Nat) (x : Nat → Nat → Int32) (hM : MC D g b0 μ (sV σ) (sB σ) nC x H) (hR : MR σ x) (hMK : MK σ nC x) (a b : Nat) (ha4 : a < sB σ) (hb4 : b < sB σ) (cc : Nat) (hgc : GC1 σ (sH σ a) (sH σ b) cc) : Met l yX4_base wsX4_base ({ frames := 2, cells := 0, slots := 0, locals := 46 } : Room) (kPc D g [.ref (μ 0), .int (nI a), .int (nI b)] H) (kI (fun r H1 => SpBase σ (nI a) (nI b) r σ ∧ MPost D g b0 μ H σ H1)) 0 0 (kF b0) := by
  refine Met.ofW (cc := cX4_base) (maxL := 4) (ret := (some .int)) (by decide) rfl ?_
  intro p e s m args below meth c s₁ B hml hv
  obtain ⟨rfl, hH, hK⟩ := hv
  have hx := B.exec
  have hb := B.bytes
  have hr := B.returns
  have hts := atoms_spec (ws := wsX4_base) B.pre
  have hown : s.vm.findClass RX4 = some m.cls := findClass_of_methodNamed B.named
  have hlocks := B.notSynchronized
  rw [hH]
  have hl := lv_entry ([.ref (μ 0), .int (nI a), .int (nI b)]) (n := 4) (Nat.le_of_ble_eq_true rfl)
  rw [lg_entry_eq]
  generalize (lg_sl ([.ref (μ 0), .int (nI a), .int (nI b)]) ++ List.replicate (4 - (lg_sl ([.ref (μ 0), .int (nI a), .int (nI b)])).length) Slot.unset).toArray = ls at hl ⊢
  have hl : lv_has ls 4 [(0, .ref (μ 0)), (1, .int (nI a)), (2, .int (nI b))] := hl
  have hWF := hR.1
  have hV4 : sV σ ≤ 400 := hWF.2.1
  have hB4 : sB σ ≤ 40 := hWF.2.2.2.1
  have hC4 : nC ≤ 64 := hMK.le
  have hha := hWF.2.2.2.2.1 a ha4
  have hhb := hWF.2.2.2.2.1 b hb4
  have hcu := hWF.gc1 hha hgc
  refine lv_aload_n hx hb dX4_base_0 rfl (lv_at hl 0 rfl) ?_
  refine lv_iload_n hx hb dX4_base_1 rfl (lv_at hl 1 rfl) ?_
  refine k_callX (va_runV (As := [.int (nI a)]) (rest := []) ⟨hx, hb, hml, hown, hts⟩ (c_X4_isBranch_y l D g b0 H μ (sV σ) (sB σ) nC x hM hV4 hB4 hC4 a ha4) (cwV 1 hts gX4_base_X4_isBranch rfl rfl rfl (by decide +kernel) ⟨Nat.le_of_ble_eq_true rfl, Nat.le_of_ble_eq_true rfl⟩) ⟨kPc_blind, k_recv hK hM.o rfl, fun U hU hW => kPc_at hK hU hW⟩ rfl rfl hl.1 rfl (lv_room (Nat.le_of_ble_eq_true rfl)) dX4_base_2 ⟨Nat.le_of_ble_eq_true rfl, Nat.le_of_ble_eq_true rfl⟩) ?_
  refine z_if_eq (tgt := 16) hx hb dX4_base_5 (by decide) (fun h => by cases h) (fun _ => ?_)
  refine lv_aload_n hx hb dX4_base_8 rfl (lv_at hl 0 rfl) ?_
  refine lv_iload_n hx hb dX4_base_9 rfl (lv_at hl 2 rfl) ?_
  refine k_callX (va_runV (As := [.int (nI b)]) (rest := []) ⟨hx, hb, hml, hown, hts⟩ (c_X4_isBranch_y l D g b0 H μ (sV σ) (sB σ) nC x hM hV4 hB4 hC4 b hb4) (cwV 1 hts gX4_base_X4_isBranch rfl rfl rfl (by decide +kernel) ⟨Nat.le_of_ble_eq_true rfl, Nat.le_of_ble_eq_true rfl⟩) ⟨kPc_blind, k_recv hK hM.o rfl, fun U hU hW => kPc_at hK hU hW⟩ rfl rfl hl.1 rfl (lv_room (Nat.le_of_ble_eq_true rfl)) dX4_base_10 ⟨Nat.le_of_ble_eq_true rfl, Nat.le_of_ble_eq_true rfl⟩) ?_
  refine z_if_ne (tgt := 18) hx hb dX4_base_13 (by decide) (fun _ => ?_) (fun h => by cases h)
  refine lv_aload_n hx hb dX4_base_18 rfl (lv_at hl 0 rfl) ?_
  refine lv_aload_n hx hb dX4_base_19 rfl (lv_at hl 0 rfl) ?_
  refine k_get (ci := 4) (C := RX4) (T := TX4) (N := 13) (v := .ref (μ 4)) hx hb hts (by decide +kernel) hown hK hM.o rfl 4 (by decide) rfl (hts (.fieldLink RX4 21 RX4 "heads" "[I") (by decide +kernel)) rfl dX4_base_20 ?_
  refine lv_iload_n hx hb dX4_base_23 rfl (lv_at hl 1 rfl) ?_
  refine k_iald hx hb hK hM.a4 (a) rfl (by omega) (by omega) dX4_base_24 ?_
  rw [show x 4 (a) = nI (sH σ a) from (hR.2.2.2.2 a ha4)]
  refine lv_aload_n hx hb dX4_base_25 rfl (lv_at hl 0 rfl) ?_
  refine k_get (ci := 4) (C := RX4) (T := TX4) (N := 13) (v := .ref (μ 4)) hx hb hts (by decide +kernel) hown hK hM.o rfl 4 (by decide) rfl (hts (.fieldLink RX4 21 RX4 "heads" "[I") (by decide +kernel)) rfl dX4_base_26 ?_
  refine lv_iload_n hx hb dX4_base_29 rfl (lv_at hl 2 rfl) ?_
  refine k_iald hx hb hK hM.a4 (b) rfl (by omega) (by omega) dX4_base_30 ?_
  rw [show x 4 (b) = nI (sH σ b) from (hR.2.2.2.2 b hb4)]
  refine k_callI (va_runV (As := [.int (nI (sH σ a)), .int (nI (sH σ b))]) (rest := []) ⟨hx, hb, hml, hown, hts⟩ (c_X4_common l D g b0 H μ σ nC x hM hR hC4 (sH σ a) (sH σ b) hha hhb (some cc) (GCo.of1 hWF hha hgc)) (cwV 2 hts gX4_base_X4_common rfl rfl rfl (by decide +kernel) ⟨Nat.le_of_ble_eq_true rfl, Nat.le_of_ble_eq_true rfl⟩) ⟨kPc_blind, k_recv hK hM.o rfl, fun U hU hW => kPc_at hK hU hW⟩ rfl rfl hl.1 rfl (lv_room (Nat.le_of_ble_eq_true rfl)) dX4_base_31 ⟨Nat.le_of_ble_eq_true rfl, Nat.le_of_ble_eq_true rfl⟩) LB.nil (fun rc H1 locs1 hLB1 hq1 => ?_)
  obtain ⟨hrc, m1, m2, hM1, hF1⟩ := hq1
  have hrc1 : rc = nI cc := hrc
  subst hrc1
  refine lv_istore_n (lv' := [(3, .int (nI cc)), (0, .ref (μ 0)), (1, .int (nI a)), (2, .int (nI b))]) hx hb dX4_base_34 rfl hl (by decide) rfl (fun ls hl => ?_)
  refine lv_iload_n hx hb dX4_base_35 rfl (lv_at hl 0 rfl) ?_
  refine n_if_ge (tgt := 44) hx hb dX4_base_36 (by decide) (by omega) ?_
  refine lv_iload_n hx hb dX4_base_44 rfl (lv_at hl 0 rfl) ?_
  exact r_iI hx hb hr hLB1 (Nat.le_refl _) (Nat.le_refl _) ⟨⟨rfl, Or.inr ⟨a, b, ha4, hb4, rfl, rfl, Or.inr ⟨cc, hgc, rfl⟩⟩⟩, _, _, hM1, ((hR.up (by omega) _).up (by omega) _), (hMK.keep rfl (fun c hc => by rw [up_ne _ _ (by omega), up_ne _ _ (by omega)])), hF1⟩ dX4_base_45 hlocks
theorem c_X4_base (l : Launch) (D : va_G) (g : Nat → ClassId) (b0 : Nat) (H : Heap) (μ : Nat → Nat) (σ : SG) (nC : Nat) (x : Nat → Nat → Int32) (hM : MC D g b0 μ (sV σ) (sB σ) nC x H) (hR : MR σ x) (hMK : MK σ nC x) (ai bi : Int32) : Met l yX4_base wsX4_base ({ frames := 2, cells := 0, slots := 0, locals := 46 } : Room) (kPc D g [.ref (μ 0), .int ai, .int bi] H) (kI (fun r H1 => SpBase σ ai bi r σ ∧ MPost D g b0 μ H σ H1)) 0 0 (kF b0) := by
  rcases br_dec σ ai with h | ⟨a, ha4, rfl⟩
  · exact c_X4_base_n1 l D g b0 H μ σ nC x hM hR hMK ai bi h
  · rcases br_dec σ bi with h | ⟨b, hb4, rfl⟩
    · exact c_X4_base_n2 l D g b0 H μ σ nC x hM hR hMK a ha4 bi h
    · rcases gc_dec σ (sH σ a) (sH σ b) with h | ⟨c, h⟩
      · exact c_X4_base_y0 l D g b0 H μ σ nC x hM hR hMK a b ha4 hb4 h
      · exact c_X4_base_y1 l D g b0 H μ σ nC x hM hR hMK a b ha4 hb4 c h
set_option maxHeartbeats 4000000 in
set_option maxRecDepth 100000 in
/-- conflict_n -/
theorem c_X4_conflict_n (l : Launch) (D : va_G) (g : Nat → ClassId) (b0 : Nat) (H : Heap) (μ : Nat → Nat) (σ : SG) (nC : Nat) (x : Nat → Nat → Int32) (hM : MC D g b0 μ (sV σ) (sB σ) nC x H) (hR : MR σ x) (hMK : MK σ nC x) (ix wh : Int32) (hno : ∀ k, k < 256 → crowd (bt (sM σ)) k = true → ¬ nI (cnt (crowd (bt (sM σ))) k) = ix) : Met l yX4_conflict wsX4_conflict ({ frames := 0, cells := 0, slots := 0, locals := 0 } : Room) (kPc D g [.ref (μ 0), .int (ix), .int (wh)] H) (kI (fun r H1 => SpConflict σ ix wh r σ ∧ MPost D g b0 μ H σ H1)) 0 0 (kF b0) := by
  refine Met.ofW (cc := cX4_conflict) (maxL := 3) (ret := (some .int)) (by decide) rfl ?_
  intro p e s m args below meth c s₁ B hml hv
  obtain ⟨rfl, hH, hK⟩ := hv
  have hx := B.exec
  have hb := B.bytes
  have hr := B.returns
  have hts := atoms_spec (ws := wsX4_conflict) B.pre
  have hown : s.vm.findClass RX4 = some m.cls := findClass_of_methodNamed B.named
  have hlocks := B.notSynchronized
  rw [hH]
  have hl := lv_entry ([.ref (μ 0), .int (ix), .int (wh)]) (n := 3) (Nat.le_of_ble_eq_true rfl)
  rw [lg_entry_eq]
  generalize (lg_sl ([.ref (μ 0), .int (ix), .int (wh)]) ++ List.replicate (3 - (lg_sl ([.ref (μ 0), .int (ix), .int (wh)])).length) Slot.unset).toArray = ls at hl ⊢
  have hl : lv_has ls 3 [(0, .ref (μ 0)), (1, .int (ix)), (2, .int (wh))] := hl
  have hWF := hR.1
  have hV4 : sV σ ≤ 400 := hWF.2.1
  have hB4 : sB σ ≤ 40 := hWF.2.2.2.1
  have hC4 : nC ≤ 64 := hMK.le
  refine lv_iload_n hx hb dX4_conflict_0 rfl (lv_at hl 1 rfl) ?_
  refine lv_if_lt (tgt := 12) hx hb dX4_conflict_1 (by decide) (fun c_1171 => ?_) (fun c_1171 => ?_)
  · skip
    refine lv_bipush (v := (-2)) hx hb dX4_conflict_12 (by decide +kernel) ?_
    exact r_iI hx hb hr LB.nil (Nat.le_refl _) (Nat.le_refl _) ⟨⟨rfl, Or.inr ⟨hno, rfl⟩⟩, _, _, hM, hR, hMK, MFr.rf⟩ dX4_conflict_14 hlocks
  · skip
    refine lv_iload_n hx hb dX4_conflict_4 rfl (lv_at hl 1 rfl) ?_
    refine lv_aload_n hx hb dX4_conflict_5 rfl (lv_at hl 0 rfl) ?_
    refine k_get (ci := 4) (C := RX4) (T := TX4) (N := 13) (v := .int (nI nC)) hx hb hts (by decide +kernel) hown hK hM.o rfl 12 (by decide) rfl (hts (.fieldLink RX4 90 RX4 "conflicts" "I") (by decide +kernel)) rfl dX4_conflict_6 ?_
    refine lv_icmp_lt (tgt := 15) hx hb dX4_conflict_9 (by decide) (fun c_1172 => ?_) (fun c_1172 => ?_)
    · skip
      obtain ⟨j, hj, rfl⟩ := int_lt c_1171 (fun z => Int32.not_le.mpr c_1172 z) (show nC < 2 ^ 31 by omega)
      rw [hMK.1] at hj
      obtain ⟨k, k1, k2, k3⟩ := cnt_surj _ _ _ hj
      exact absurd (by rw [k3]) (hno k k1 k2)
    · skip
      refine lv_bipush (v := (-2)) hx hb dX4_conflict_12 (by decide +kernel) ?_
      exact r_iI hx hb hr LB.nil (Nat.le_refl _) (Nat.le_refl _) ⟨⟨rfl, Or.inr ⟨hno, rfl⟩⟩, _, _, hM, hR, hMK, MFr.rf⟩ dX4_conflict_14 hlocks
set_option maxHeartbeats 4000000 in
set_option maxRecDepth 100000 in
/-- conflict_y -/
theorem c_X4_conflict_y (l : Launch) (D : va_G) (g : Nat → ClassId) (b0 : Nat) (H : Heap) (μ : Nat → Nat) (σ : SG) (nC : Nat) (x : Nat → Nat → Int32) (hM : MC D g b0 μ (sV σ) (sB σ) nC x H) (hR : MR σ x) (hMK : MK σ nC x) (k : Nat) (hk : k < 256) (hkc : crowd (bt (sM σ)) k = true) (wh : Int32) : Met l yX4_conflict wsX4_conflict ({ frames := 0, cells := 0, slots := 0, locals := 0 } : Room) (kPc D g [.ref (μ 0), .int (nI (cnt (crowd (bt (sM σ))) k)), .int (wh)] H) (kI (fun r H1 => SpConflict σ (nI (cnt (crowd (bt (sM σ))) k)) wh r σ ∧ MPost D g b0 μ H σ H1)) 0 0 (kF b0) := by
  refine Met.ofW (cc := cX4_conflict) (maxL := 3) (ret := (some .int)) (by decide) rfl ?_
  intro p e s m args below meth c s₁ B hml hv
  obtain ⟨rfl, hH, hK⟩ := hv
  have hx := B.exec
  have hb := B.bytes
  have hr := B.returns
  have hts := atoms_spec (ws := wsX4_conflict) B.pre
  have hown : s.vm.findClass RX4 = some m.cls := findClass_of_methodNamed B.named
  have hlocks := B.notSynchronized
  rw [hH]
  have hl := lv_entry ([.ref (μ 0), .int (nI (cnt (crowd (bt (sM σ))) k)), .int (wh)]) (n := 3) (Nat.le_of_ble_eq_true rfl)
  rw [lg_entry_eq]
  generalize (lg_sl ([.ref (μ 0), .int (nI (cnt (crowd (bt (sM σ))) k)), .int (wh)]) ++ List.replicate (3 - (lg_sl ([.ref (μ 0), .int (nI (cnt (crowd (bt (sM σ))) k)), .int (wh)])).length) Slot.unset).toArray = ls at hl ⊢
  have hl : lv_has ls 3 [(0, .ref (μ 0)), (1, .int (nI (cnt (crowd (bt (sM σ))) k))), (2, .int (wh))] := hl
  have hWF := hR.1
  have hV4 : sV σ ≤ 400 := hWF.2.1
  have hB4 : sB σ ≤ 40 := hWF.2.2.2.1
  have hC4 : nC ≤ 64 := hMK.le
  have hlt := cnt_lt (crowd (bt (sM σ))) hk hkc
  have hnC := hMK.1
  obtain ⟨h8, h9, h10⟩ := hMK.2 k hk hkc
  obtain ⟨o9, o91, o92, o93, o94⟩ := h9
  obtain ⟨o10, o101, o102, o103, o104⟩ := h10
  refine lv_iload_n hx hb dX4_conflict_0 rfl (lv_at hl 1 rfl) ?_
  refine n_if_lt (tgt := 12) hx hb dX4_conflict_1 (by decide) (by omega) ?_
  refine lv_iload_n hx hb dX4_conflict_4 rfl (lv_at hl 1 rfl) ?_
  refine lv_aload_n hx hb dX4_conflict_5 rfl (lv_at hl 0 rfl) ?_
  refine k_get (ci := 4) (C := RX4) (T := TX4) (N := 13) (v := .int (nI nC)) hx hb hts (by decide +kernel) hown hK hM.o rfl 12 (by decide) rfl (hts (.fieldLink RX4 90 RX4 "conflicts" "I") (by decide +kernel)) rfl dX4_conflict_6 ?_
  refine n_icmp_lt (tgt := 15) hx hb dX4_conflict_9 (by decide) (by omega) (by omega) (fun c_1174 => ?_) (fun c_1174 => ?_)
  · skip
    refine lv_iload_n hx hb dX4_conflict_15 rfl (lv_at hl 2 rfl) ?_
    have hsw : wh = 0 ∨ wh = 1 ∨ wh = 2 ∨ (¬ wh = 0 ∧ ¬ wh = 1 ∧ ¬ wh = 2) := by
      by_cases z0 : wh = 0
      · exact Or.inl z0
      by_cases z1 : wh = 1
      · exact Or.inr (Or.inl z1)
      by_cases z2 : wh = 2
      · exact Or.inr (Or.inr (Or.inl z2))
      exact Or.inr (Or.inr (Or.inr ⟨z0, z1, z2⟩))
    rcases hsw with rfl | rfl | rfl | ⟨z0, z1, z2⟩
    · skip
      refine lv_tableIn (off := 28) (tgt := 44) hx hb dX4_conflict_16 (by decide +kernel) (by decide +kernel) (by decide +kernel) (by decide) ?_
      refine lv_aload_n hx hb dX4_conflict_44 rfl (lv_at hl 0 rfl) ?_
      refine k_get (ci := 4) (C := RX4) (T := TX4) (N := 13) (v := .ref (μ 8)) hx hb hts (by decide +kernel) hown hK hM.o rfl 9 (by decide) rfl (hts (.fieldLink RX4 34 RX4 "keys" "[I") (by decide +kernel)) rfl dX4_conflict_45 ?_
      refine lv_iload_n hx hb dX4_conflict_48 rfl (lv_at hl 1 rfl) ?_
      refine k_iald hx hb hK hM.a8 (cnt (crowd (bt (sM σ))) k) rfl (by omega) (by omega) dX4_conflict_49 ?_
      rw [show x 8 (cnt (crowd (bt (sM σ))) k) = nI k from h8]
      exact r_iI hx hb hr LB.nil (Nat.le_refl _) (Nat.le_refl _) ⟨⟨rfl, Or.inl ⟨k, hk, hkc, rfl, Or.inl ⟨rfl, rfl⟩⟩⟩, _, _, hM, hR, hMK, MFr.rf⟩ dX4_conflict_50 hlocks
    · skip
      refine lv_tableIn (off := 35) (tgt := 51) hx hb dX4_conflict_16 (by decide +kernel) (by decide +kernel) (by decide +kernel) (by decide) ?_
      refine lv_aload_n hx hb dX4_conflict_51 rfl (lv_at hl 0 rfl) ?_
      refine k_get (ci := 4) (C := RX4) (T := TX4) (N := 13) (v := .ref (μ 9)) hx hb hts (by decide +kernel) hown hK hM.o rfl 10 (by decide) rfl (hts (.fieldLink RX4 37 RX4 "least" "[I") (by decide +kernel)) rfl dX4_conflict_52 ?_
      refine lv_iload_n hx hb dX4_conflict_55 rfl (lv_at hl 1 rfl) ?_
      refine k_iald hx hb hK hM.a9 (cnt (crowd (bt (sM σ))) k) rfl (by omega) (by omega) dX4_conflict_56 ?_
      rw [show x 9 (cnt (crowd (bt (sM σ))) k) = nI (16 * k + o9) from o94]
      exact r_iI hx hb hr LB.nil (Nat.le_refl _) (Nat.le_refl _) ⟨⟨rfl, Or.inl ⟨k, hk, hkc, rfl, Or.inr (Or.inl ⟨rfl, o9, o91, o92, o93, rfl⟩)⟩⟩, _, _, hM, hR, hMK, MFr.rf⟩ dX4_conflict_57 hlocks
    · skip
      refine lv_tableIn (off := 42) (tgt := 58) hx hb dX4_conflict_16 (by decide +kernel) (by decide +kernel) (by decide +kernel) (by decide) ?_
      refine lv_aload_n hx hb dX4_conflict_58 rfl (lv_at hl 0 rfl) ?_
      refine k_get (ci := 4) (C := RX4) (T := TX4) (N := 13) (v := .ref (μ 10)) hx hb hts (by decide +kernel) hown hK hM.o rfl 11 (by decide) rfl (hts (.fieldLink RX4 40 RX4 "greatest" "[I") (by decide +kernel)) rfl dX4_conflict_59 ?_
      refine lv_iload_n hx hb dX4_conflict_62 rfl (lv_at hl 1 rfl) ?_
      refine k_iald hx hb hK hM.a10 (cnt (crowd (bt (sM σ))) k) rfl (by omega) (by omega) dX4_conflict_63 ?_
      rw [show x 10 (cnt (crowd (bt (sM σ))) k) = nI (16 * k + o10) from o104]
      exact r_iI hx hb hr LB.nil (Nat.le_refl _) (Nat.le_refl _) ⟨⟨rfl, Or.inl ⟨k, hk, hkc, rfl, Or.inr (Or.inr (Or.inl ⟨rfl, o10, o101, o102, o103, rfl⟩))⟩⟩, _, _, hM, hR, hMK, MFr.rf⟩ dX4_conflict_64 hlocks
    · skip
      refine lv_tableOut (tgt := 65) hx hb dX4_conflict_16 (sw3 z0 z1 z2) (by decide) ?_
      refine lv_bipush (v := (-2)) hx hb dX4_conflict_65 (by decide +kernel) ?_
      exact r_iI hx hb hr LB.nil (Nat.le_refl _) (Nat.le_refl _) ⟨⟨rfl, Or.inl ⟨k, hk, hkc, rfl, Or.inr (Or.inr (Or.inr ⟨z0, z1, z2, rfl⟩))⟩⟩, _, _, hM, hR, hMK, MFr.rf⟩ dX4_conflict_67 hlocks
  · skip
    exact absurd hlt (by omega)
theorem c_X4_conflict (l : Launch) (D : va_G) (g : Nat → ClassId) (b0 : Nat) (H : Heap) (μ : Nat → Nat) (σ : SG) (nC : Nat) (x : Nat → Nat → Int32) (hM : MC D g b0 μ (sV σ) (sB σ) nC x H) (hR : MR σ x) (hMK : MK σ nC x) (ix wh : Int32) : Met l yX4_conflict wsX4_conflict ({ frames := 0, cells := 0, slots := 0, locals := 0 } : Room) (kPc D g [.ref (μ 0), .int ix, .int wh] H) (kI (fun r H1 => SpConflict σ ix wh r σ ∧ MPost D g b0 μ H σ H1)) 0 0 (kF b0) := by
  by_cases h : ∃ k, k < 256 ∧ crowd (bt (sM σ)) k = true ∧ nI (cnt (crowd (bt (sM σ))) k) = ix
  · obtain ⟨k, hk, hkc, rfl⟩ := h
    exact c_X4_conflict_y l D g b0 H μ σ nC x hM hR hMK k hk hkc wh
  · exact c_X4_conflict_n l D g b0 H μ σ nC x hM hR hMK ix wh (fun k hk hkc e => h ⟨k, hk, hkc, e⟩)
set_option maxHeartbeats 4000000 in
set_option maxRecDepth 100000 in
/-- inverse_n -/
theorem c_X4_inverse_n (l : Launch) (D : va_G) (g : Nat → ClassId) (b0 : Nat) (H : Heap) (μ : Nat → Nat) (σ : SG) (nC : Nat) (x : Nat → Nat → Int32) (hM : MC D g b0 μ (sV σ) (sB σ) nC x H) (hR : MR σ x) (hMK : MK σ nC x) (i : Int32) (hP : PaN σ i) : Met l yX4_inverse wsX4_inverse ({ frames := 2, cells := 0, slots := 0, locals := 42 } : Room) (kPc D g [.ref (μ 0), .int (i)] H) (kI (fun r H1 => SpInverse σ i r σ ∧ MPost D g b0 μ H σ H1)) 0 0 (kF b0) := by
  refine Met.ofW (cc := cX4_inverse) (maxL := 2) (ret := (some .int)) (by decide) rfl ?_
  intro p e s m args below meth c s₁ B hml hv
  obtain ⟨rfl, hH, hK⟩ := hv
  have hx := B.exec
  have hb := B.bytes
  have hr := B.returns
  have hts := atoms_spec (ws := wsX4_inverse) B.pre
  have hown : s.vm.findClass RX4 = some m.cls := findClass_of_methodNamed B.named
  have hlocks := B.notSynchronized
  rw [hH]
  have hl := lv_entry ([.ref (μ 0), .int (i)]) (n := 2) (Nat.le_of_ble_eq_true rfl)
  rw [lg_entry_eq]
  generalize (lg_sl ([.ref (μ 0), .int (i)]) ++ List.replicate (2 - (lg_sl ([.ref (μ 0), .int (i)])).length) Slot.unset).toArray = ls at hl ⊢
  have hl : lv_has ls 2 [(0, .ref (μ 0)), (1, .int (i))] := hl
  have hWF := hR.1
  have hV4 : sV σ ≤ 400 := hWF.2.1
  have hB4 : sB σ ≤ 40 := hWF.2.2.2.1
  have hC4 : nC ≤ 64 := hMK.le
  refine lv_aload_n hx hb dX4_inverse_0 rfl (lv_at hl 0 rfl) ?_
  refine lv_iload_n hx hb dX4_inverse_1 rfl (lv_at hl 1 rfl) ?_
  refine k_callX (va_runV (As := [.int (i)]) (rest := []) ⟨hx, hb, hml, hown, hts⟩ (c_X4_isPatch_n l D g b0 H μ (sV σ) (sB σ) nC x hM hV4 hB4 hC4 i hP.1 hP.2) (cwV 1 hts gX4_inverse_X4_isPatch rfl rfl rfl (by decide +kernel) ⟨Nat.le_of_ble_eq_true rfl, Nat.le_of_ble_eq_true rfl⟩) ⟨kPc_blind, k_recv hK hM.o rfl, fun U hU hW => kPc_at hK hU hW⟩ rfl rfl hl.1 rfl (lv_room (Nat.le_of_ble_eq_true rfl)) dX4_inverse_2 ⟨Nat.le_of_ble_eq_true rfl, Nat.le_of_ble_eq_true rfl⟩) ?_
  refine z_if_eq (tgt := 14) hx hb dX4_inverse_5 (by decide) (fun _ => ?_) (fun h => by cases h)
  refine lv_iconst (v := (-1)) hx hb dX4_inverse_14 (by decide +kernel) ?_
  exact r_iI hx hb hr LB.nil (Nat.le_refl _) (Nat.le_refl _) ⟨⟨rfl, Or.inl ⟨hP, rfl⟩⟩, _, _, hM, hR, hMK, MFr.rf⟩ dX4_inverse_15 hlocks
set_option maxHeartbeats 4000000 in
set_option maxRecDepth 100000 in
/-- inverse_y0 -/
theorem c_X4_inverse_y0 (l : Launch) (D : va_G) (g : Nat → ClassId) (b0 : Nat) (H : Heap) (μ : Nat → Nat) (σ : SG) (nC : Nat) (x : Nat → Nat → Int32) (hM : MC D g b0 μ (sV σ) (sB σ) nC x H) (hR : MR σ x) (hMK : MK σ nC x) (n : Nat) (hn : n < sV σ) : Met l yX4_inverse wsX4_inverse ({ frames := 2, cells := 0, slots := 0, locals := 42 } : Room) (kPc D g [.ref (μ 0), .int (nI n)] H) (kI (fun r H1 => SpInverse σ (nI n) r σ ∧ MPost D g b0 μ H σ H1)) 0 0 (kF b0) := by
  refine Met.ofW (cc := cX4_inverse) (maxL := 2) (ret := (some .int)) (by decide) rfl ?_
  intro p e s m args below meth c s₁ B hml hv
  obtain ⟨rfl, hH, hK⟩ := hv
  have hx := B.exec
  have hb := B.bytes
  have hr := B.returns
  have hts := atoms_spec (ws := wsX4_inverse) B.pre
  have hown : s.vm.findClass RX4 = some m.cls := findClass_of_methodNamed B.named
  have hlocks := B.notSynchronized
  rw [hH]
  have hl := lv_entry ([.ref (μ 0), .int (nI n)]) (n := 2) (Nat.le_of_ble_eq_true rfl)
  rw [lg_entry_eq]
  generalize (lg_sl ([.ref (μ 0), .int (nI n)]) ++ List.replicate (2 - (lg_sl ([.ref (μ 0), .int (nI n)])).length) Slot.unset).toArray = ls at hl ⊢
  have hl : lv_has ls 2 [(0, .ref (μ 0)), (1, .int (nI n))] := hl
  have hWF := hR.1
  have hV4 : sV σ ≤ 400 := hWF.2.1
  have hB4 : sB σ ≤ 40 := hWF.2.2.2.1
  have hC4 : nC ≤ 64 := hMK.le
  refine lv_aload_n hx hb dX4_inverse_0 rfl (lv_at hl 0 rfl) ?_
  refine lv_iload_n hx hb dX4_inverse_1 rfl (lv_at hl 1 rfl) ?_
  refine k_callX (va_runV (As := [.int (nI n)]) (rest := []) ⟨hx, hb, hml, hown, hts⟩ (c_X4_isPatch_0 l D g b0 H μ (sV σ) (sB σ) nC x hM hV4 hB4 hC4 n hn) (cwV 1 hts gX4_inverse_X4_isPatch rfl rfl rfl (by decide +kernel) ⟨Nat.le_of_ble_eq_true rfl, Nat.le_of_ble_eq_true rfl⟩) ⟨kPc_blind, k_recv hK hM.o rfl, fun U hU hW => kPc_at hK hU hW⟩ rfl rfl hl.1 rfl (lv_room (Nat.le_of_ble_eq_true rfl)) dX4_inverse_2 ⟨Nat.le_of_ble_eq_true rfl, Nat.le_of_ble_eq_true rfl⟩) ?_
  refine z_if_eq (tgt := 14) hx hb dX4_inverse_5 (by decide) (fun h => by cases h) (fun _ => ?_)
  refine lv_iconst (v := (-1)) hx hb dX4_inverse_8 (by decide +kernel) ?_
  refine lv_iload_n hx hb dX4_inverse_9 rfl (lv_at hl 1 rfl) ?_
  refine lv_isub hx hb dX4_inverse_10 ?_
  refine lv_goto (tgt := 15) hx hb dX4_inverse_11 (by decide) ?_
  exact r_iI hx hb hr LB.nil (Nat.le_refl _) (Nat.le_refl _) ⟨⟨rfl, Or.inr ⟨fun q => q.1 n hn rfl, rfl⟩⟩, _, _, hM, hR, hMK, MFr.rf⟩ dX4_inverse_15 hlocks
set_option maxHeartbeats 4000000 in
set_option maxRecDepth 100000 in
/-- inverse_y1 -/
theorem c_X4_inverse_y1 (l : Launch) (D : va_G) (g : Nat → ClassId) (b0 : Nat) (H : Heap) (μ : Nat → Nat) (σ : SG) (nC : Nat) (x : Nat → Nat → Int32) (hM : MC D g b0 μ (sV σ) (sB σ) nC x H) (hR : MR σ x) (hMK : MK σ nC x) (n : Nat) (hn : n < sV σ) : Met l yX4_inverse wsX4_inverse ({ frames := 2, cells := 0, slots := 0, locals := 42 } : Room) (kPc D g [.ref (μ 0), .int ((-1) - nI n)] H) (kI (fun r H1 => SpInverse σ ((-1) - nI n) r σ ∧ MPost D g b0 μ H σ H1)) 0 0 (kF b0) := by
  refine Met.ofW (cc := cX4_inverse) (maxL := 2) (ret := (some .int)) (by decide) rfl ?_
  intro p e s m args below meth c s₁ B hml hv
  obtain ⟨rfl, hH, hK⟩ := hv
  have hx := B.exec
  have hb := B.bytes
  have hr := B.returns
  have hts := atoms_spec (ws := wsX4_inverse) B.pre
  have hown : s.vm.findClass RX4 = some m.cls := findClass_of_methodNamed B.named
  have hlocks := B.notSynchronized
  rw [hH]
  have hl := lv_entry ([.ref (μ 0), .int ((-1) - nI n)]) (n := 2) (Nat.le_of_ble_eq_true rfl)
  rw [lg_entry_eq]
  generalize (lg_sl ([.ref (μ 0), .int ((-1) - nI n)]) ++ List.replicate (2 - (lg_sl ([.ref (μ 0), .int ((-1) - nI n)])).length) Slot.unset).toArray = ls at hl ⊢
  have hl : lv_has ls 2 [(0, .ref (μ 0)), (1, .int ((-1) - nI n))] := hl
  have hWF := hR.1
  have hV4 : sV σ ≤ 400 := hWF.2.1
  have hB4 : sB σ ≤ 40 := hWF.2.2.2.1
  have hC4 : nC ≤ 64 := hMK.le
  refine lv_aload_n hx hb dX4_inverse_0 rfl (lv_at hl 0 rfl) ?_
  refine lv_iload_n hx hb dX4_inverse_1 rfl (lv_at hl 1 rfl) ?_
  refine k_callX (va_runV (As := [.int ((-1) - nI n)]) (rest := []) ⟨hx, hb, hml, hown, hts⟩ (c_X4_isPatch_1 l D g b0 H μ (sV σ) (sB σ) nC x hM hV4 hB4 hC4 n hn) (cwV 1 hts gX4_inverse_X4_isPatch rfl rfl rfl (by decide +kernel) ⟨Nat.le_of_ble_eq_true rfl, Nat.le_of_ble_eq_true rfl⟩) ⟨kPc_blind, k_recv hK hM.o rfl, fun U hU hW => kPc_at hK hU hW⟩ rfl rfl hl.1 rfl (lv_room (Nat.le_of_ble_eq_true rfl)) dX4_inverse_2 ⟨Nat.le_of_ble_eq_true rfl, Nat.le_of_ble_eq_true rfl⟩) ?_
  refine z_if_eq (tgt := 14) hx hb dX4_inverse_5 (by decide) (fun h => by cases h) (fun _ => ?_)
  refine lv_iconst (v := (-1)) hx hb dX4_inverse_8 (by decide +kernel) ?_
  refine lv_iload_n hx hb dX4_inverse_9 rfl (lv_at hl 1 rfl) ?_
  refine lv_isub hx hb dX4_inverse_10 ?_
  refine lv_goto (tgt := 15) hx hb dX4_inverse_11 (by decide) ?_
  exact r_iI hx hb hr LB.nil (Nat.le_refl _) (Nat.le_refl _) ⟨⟨rfl, Or.inr ⟨fun q => q.2 n hn rfl, rfl⟩⟩, _, _, hM, hR, hMK, MFr.rf⟩ dX4_inverse_15 hlocks
theorem c_X4_inverse (l : Launch) (D : va_G) (g : Nat → ClassId) (b0 : Nat) (H : Heap) (μ : Nat → Nat) (σ : SG) (nC : Nat) (x : Nat → Nat → Int32) (hM : MC D g b0 μ (sV σ) (sB σ) nC x H) (hR : MR σ x) (hMK : MK σ nC x) (i : Int32) : Met l yX4_inverse wsX4_inverse ({ frames := 2, cells := 0, slots := 0, locals := 42 } : Room) (kPc D g [.ref (μ 0), .int i] H) (kI (fun r H1 => SpInverse σ i r σ ∧ MPost D g b0 μ H σ H1)) 0 0 (kF b0) := by
  rcases pa_dec σ i with h | ⟨n, hn, rfl | rfl⟩
  · exact c_X4_inverse_n l D g b0 H μ σ nC x hM hR hMK i h
  · exact c_X4_inverse_y0 l D g b0 H μ σ nC x hM hR hMK n hn
  · exact c_X4_inverse_y1 l D g b0 H μ σ nC x hM hR hMK n hn
set_option maxHeartbeats 4000000 in
set_option maxRecDepth 100000 in
/-- versions -/
theorem c_X4_versions (l : Launch) (D : va_G) (g : Nat → ClassId) (b0 : Nat) (H : Heap) (μ : Nat → Nat) (σ : SG) (nC : Nat) (x : Nat → Nat → Int32) (hM : MC D g b0 μ (sV σ) (sB σ) nC x H) (hR : MR σ x) (hMK : MK σ nC x)  : Met l yX4_versions wsX4_versions ({ frames := 0, cells := 0, slots := 0, locals := 0 } : Room) (kPc D g [.ref (μ 0)] H) (kI (fun r H1 => SpVersions σ r σ ∧ MPost D g b0 μ H σ H1)) 0 0 (kF b0) := by
  refine Met.ofW (cc := cX4_versions) (maxL := 1) (ret := (some .int)) (by decide) rfl ?_
  intro p e s m args below meth c s₁ B hml hv
  obtain ⟨rfl, hH, hK⟩ := hv
  have hx := B.exec
  have hb := B.bytes
  have hr := B.returns
  have hts := atoms_spec (ws := wsX4_versions) B.pre
  have hown : s.vm.findClass RX4 = some m.cls := findClass_of_methodNamed B.named
  have hlocks := B.notSynchronized
  rw [hH]
  have hl := lv_entry ([.ref (μ 0)]) (n := 1) (Nat.le_of_ble_eq_true rfl)
  rw [lg_entry_eq]
  generalize (lg_sl ([.ref (μ 0)]) ++ List.replicate (1 - (lg_sl ([.ref (μ 0)])).length) Slot.unset).toArray = ls at hl ⊢
  have hl : lv_has ls 1 [(0, .ref (μ 0))] := hl
  have hWF := hR.1
  have hV4 : sV σ ≤ 400 := hWF.2.1
  have hB4 : sB σ ≤ 40 := hWF.2.2.2.1
  have hC4 : nC ≤ 64 := hMK.le
  refine lv_aload_n hx hb dX4_versions_0 rfl (lv_at hl 0 rfl) ?_
  refine k_get (ci := 4) (C := RX4) (T := TX4) (N := 13) (v := .int (nI (sV σ))) hx hb hts (by decide +kernel) hown hK hM.o rfl 3 (by decide) rfl (hts (.fieldLink RX4 43 RX4 "versions" "I") (by decide +kernel)) rfl dX4_versions_1 ?_
  exact r_iI hx hb hr LB.nil (Nat.le_refl _) (Nat.le_refl _) ⟨⟨rfl, rfl⟩, _, _, hM, hR, hMK, MFr.rf⟩ dX4_versions_4 hlocks
set_option maxHeartbeats 4000000 in
set_option maxRecDepth 100000 in
/-- branches -/
theorem c_X4_branches (l : Launch) (D : va_G) (g : Nat → ClassId) (b0 : Nat) (H : Heap) (μ : Nat → Nat) (σ : SG) (nC : Nat) (x : Nat → Nat → Int32) (hM : MC D g b0 μ (sV σ) (sB σ) nC x H) (hR : MR σ x) (hMK : MK σ nC x)  : Met l yX4_branches wsX4_branches ({ frames := 0, cells := 0, slots := 0, locals := 0 } : Room) (kPc D g [.ref (μ 0)] H) (kI (fun r H1 => SpBranches σ r σ ∧ MPost D g b0 μ H σ H1)) 0 0 (kF b0) := by
  refine Met.ofW (cc := cX4_branches) (maxL := 1) (ret := (some .int)) (by decide) rfl ?_
  intro p e s m args below meth c s₁ B hml hv
  obtain ⟨rfl, hH, hK⟩ := hv
  have hx := B.exec
  have hb := B.bytes
  have hr := B.returns
  have hts := atoms_spec (ws := wsX4_branches) B.pre
  have hown : s.vm.findClass RX4 = some m.cls := findClass_of_methodNamed B.named
  have hlocks := B.notSynchronized
  rw [hH]
  have hl := lv_entry ([.ref (μ 0)]) (n := 1) (Nat.le_of_ble_eq_true rfl)
  rw [lg_entry_eq]
  generalize (lg_sl ([.ref (μ 0)]) ++ List.replicate (1 - (lg_sl ([.ref (μ 0)])).length) Slot.unset).toArray = ls at hl ⊢
  have hl : lv_has ls 1 [(0, .ref (μ 0))] := hl
  have hWF := hR.1
  have hV4 : sV σ ≤ 400 := hWF.2.1
  have hB4 : sB σ ≤ 40 := hWF.2.2.2.1
  have hC4 : nC ≤ 64 := hMK.le
  refine lv_aload_n hx hb dX4_branches_0 rfl (lv_at hl 0 rfl) ?_
  refine k_get (ci := 4) (C := RX4) (T := TX4) (N := 13) (v := .int (nI (sB σ))) hx hb hts (by decide +kernel) hown hK hM.o rfl 5 (by decide) rfl (hts (.fieldLink RX4 47 RX4 "branches" "I") (by decide +kernel)) rfl dX4_branches_1 ?_
  exact r_iI hx hb hr LB.nil (Nat.le_refl _) (Nat.le_refl _) ⟨⟨rfl, rfl⟩, _, _, hM, hR, hMK, MFr.rf⟩ dX4_branches_4 hlocks
set_option maxHeartbeats 4000000 in
set_option maxRecDepth 100000 in
/-- list_n -/
theorem c_X4_list_n (l : Launch) (D : va_G) (g : Nat → ClassId) (b0 : Nat) (H : Heap) (μ : Nat → Nat) (σ : SG) (nC : Nat) (x : Nat → Nat → Int32) (hM : MC D g b0 μ (sV σ) (sB σ) nC x H) (hR : MR σ x) (hMK : MK σ nC x) (bi ix : Int32) (hN : BrN σ bi) : Met l yX4_list wsX4_list ({ frames := 1, cells := 0, slots := 0, locals := 22 } : Room) (kPc D g [.ref (μ 0), .int (bi), .int (ix)] H) (kI (fun r H1 => SpList σ bi ix r σ ∧ MPost D g b0 μ H σ H1)) 0 0 (kF b0) := by
  refine Met.ofW (cc := cX4_list) (maxL := 5) (ret := (some .int)) (by decide) rfl ?_
  intro p e s m args below meth c s₁ B hml hv
  obtain ⟨rfl, hH, hK⟩ := hv
  have hx := B.exec
  have hb := B.bytes
  have hr := B.returns
  have hts := atoms_spec (ws := wsX4_list) B.pre
  have hown : s.vm.findClass RX4 = some m.cls := findClass_of_methodNamed B.named
  have hlocks := B.notSynchronized
  rw [hH]
  have hl := lv_entry ([.ref (μ 0), .int (bi), .int (ix)]) (n := 5) (Nat.le_of_ble_eq_true rfl)
  rw [lg_entry_eq]
  generalize (lg_sl ([.ref (μ 0), .int (bi), .int (ix)]) ++ List.replicate (5 - (lg_sl ([.ref (μ 0), .int (bi), .int (ix)])).length) Slot.unset).toArray = ls at hl ⊢
  have hl : lv_has ls 5 [(0, .ref (μ 0)), (1, .int (bi)), (2, .int (ix))] := hl
  have hWF := hR.1
  have hV4 : sV σ ≤ 400 := hWF.2.1
  have hB4 : sB σ ≤ 40 := hWF.2.2.2.1
  have hC4 : nC ≤ 64 := hMK.le
  refine lv_aload_n hx hb dX4_list_0 rfl (lv_at hl 0 rfl) ?_
  refine lv_iload_n hx hb dX4_list_1 rfl (lv_at hl 1 rfl) ?_
  refine k_callX (va_runV (As := [.int (bi)]) (rest := []) ⟨hx, hb, hml, hown, hts⟩ (c_X4_isBranch_n l D g b0 H μ (sV σ) (sB σ) nC x hM hV4 hB4 hC4 bi hN) (cwV 1 hts gX4_list_X4_isBranch rfl rfl rfl (by decide +kernel) ⟨Nat.le_of_ble_eq_true rfl, Nat.le_of_ble_eq_true rfl⟩) ⟨kPc_blind, k_recv hK hM.o rfl, fun U hU hW => kPc_at hK hU hW⟩ rfl rfl hl.1 rfl (lv_room (Nat.le_of_ble_eq_true rfl)) dX4_list_2 ⟨Nat.le_of_ble_eq_true rfl, Nat.le_of_ble_eq_true rfl⟩) ?_
  refine z_if_ne (tgt := 10) hx hb dX4_list_5 (by decide) (fun h => by cases h) (fun _ => ?_)
  refine lv_iconst (v := (-1)) hx hb dX4_list_8 (by decide +kernel) ?_
  exact r_iI hx hb hr LB.nil (Nat.le_refl _) (Nat.le_refl _) ⟨⟨rfl, Or.inl ⟨hN, rfl⟩⟩, _, _, hM, hR, hMK, MFr.rf⟩ dX4_list_9 hlocks
set_option maxHeartbeats 4000000 in
set_option maxRecDepth 100000 in
/-- list_y -/
theorem c_X4_list_y (l : Launch) (D : va_G) (g : Nat → ClassId) (b0 : Nat) (H : Heap) (μ : Nat → Nat) (σ : SG) (nC : Nat) (x : Nat → Nat → Int32) (hM : MC D g b0 μ (sV σ) (sB σ) nC x H) (hR : MR σ x) (hMK : MK σ nC x) (b : Nat) (hb4 : b < sB σ) (ix : Int32) : Met l yX4_list wsX4_list ({ frames := 1, cells := 0, slots := 0, locals := 22 } : Room) (kPc D g [.ref (μ 0), .int (nI b), .int (ix)] H) (kI (fun r H1 => SpList σ (nI b) ix r σ ∧ MPost D g b0 μ H σ H1)) 0 0 (kF b0) := by
  refine Met.ofW (cc := cX4_list) (maxL := 5) (ret := (some .int)) (by decide) rfl ?_
  intro p e s m args below meth c s₁ B hml hv
  obtain ⟨rfl, hH, hK⟩ := hv
  have hx := B.exec
  have hb := B.bytes
  have hr := B.returns
  have hts := atoms_spec (ws := wsX4_list) B.pre
  have hown : s.vm.findClass RX4 = some m.cls := findClass_of_methodNamed B.named
  have hlocks := B.notSynchronized
  rw [hH]
  have hl := lv_entry ([.ref (μ 0), .int (nI b), .int (ix)]) (n := 5) (Nat.le_of_ble_eq_true rfl)
  rw [lg_entry_eq]
  generalize (lg_sl ([.ref (μ 0), .int (nI b), .int (ix)]) ++ List.replicate (5 - (lg_sl ([.ref (μ 0), .int (nI b), .int (ix)])).length) Slot.unset).toArray = ls at hl ⊢
  have hl : lv_has ls 5 [(0, .ref (μ 0)), (1, .int (nI b)), (2, .int (ix))] := hl
  have hWF := hR.1
  have hV4 : sV σ ≤ 400 := hWF.2.1
  have hB4 : sB σ ≤ 40 := hWF.2.2.2.1
  have hC4 : nC ≤ 64 := hMK.le
  have hhd := hWF.2.2.2.2.1 b hb4
  refine lv_aload_n hx hb dX4_list_0 rfl (lv_at hl 0 rfl) ?_
  refine lv_iload_n hx hb dX4_list_1 rfl (lv_at hl 1 rfl) ?_
  refine k_callX (va_runV (As := [.int (nI b)]) (rest := []) ⟨hx, hb, hml, hown, hts⟩ (c_X4_isBranch_y l D g b0 H μ (sV σ) (sB σ) nC x hM hV4 hB4 hC4 b hb4) (cwV 1 hts gX4_list_X4_isBranch rfl rfl rfl (by decide +kernel) ⟨Nat.le_of_ble_eq_true rfl, Nat.le_of_ble_eq_true rfl⟩) ⟨kPc_blind, k_recv hK hM.o rfl, fun U hU hW => kPc_at hK hU hW⟩ rfl rfl hl.1 rfl (lv_room (Nat.le_of_ble_eq_true rfl)) dX4_list_2 ⟨Nat.le_of_ble_eq_true rfl, Nat.le_of_ble_eq_true rfl⟩) ?_
  refine z_if_ne (tgt := 10) hx hb dX4_list_5 (by decide) (fun _ => ?_) (fun h => by cases h)
  refine lv_iload_n hx hb dX4_list_10 rfl (lv_at hl 2 rfl) ?_
  refine lv_istore_n (lv' := [(3, .int (ix)), (0, .ref (μ 0)), (1, .int (nI b)), (2, .int (ix))]) hx hb dX4_list_11 rfl hl (by decide) rfl (fun ls hl => ?_)
  refine lv_iconst (v := nI 0) hx hb dX4_list_12 (by decide +kernel) ?_
  refine lv_istore (lv' := [(4, .int (nI 0)), (3, .int (ix)), (0, .ref (μ 0)), (1, .int (nI b)), (2, .int (ix))]) hx hb dX4_list_13 hl (by decide) rfl (fun ls hl => ?_)
  have loop : ∀ (N i : Nat), 4096 < i + N → i ≤ 4096 → (∀ k, k < i → (bt (sW σ (sH σ b))) k = true → ¬ nI (cnt (bt (sW σ (sH σ b))) k) = ix) → ∀ ls, lv_has ls 5 [(4, .int (nI i)), (3, .int (ix - nI (cnt (bt (sW σ (sH σ b))) i))), (0, .ref (μ 0)), (1, .int (nI b)), (2, .int (ix))] → W p l e (headSpec wsX4_list ({ frames := 1, cells := 0, slots := 0, locals := 22 } : Room)).room s m ([.ref (μ 0), .int (nI b), .int (ix)] : List Value).toArray below meth c H [] 0 0 (MQ below (kI (fun r H1 => SpList σ (nI b) ix r σ ∧ MPost D g b0 μ H σ H1)) ([.ref (μ 0), .int (nI b), .int (ix)] : List Value).toArray s 0 0 (kF b0)) (F0 m 15 ls []) := by
    intro N
    induction N with
    | zero => intro i h0 h1; omega
    | succ N ih =>
      intro i hN hi hv ls hl
      have hcl := cnt_le (bt (sW σ (sH σ b))) i
      refine lv_iload hx hb dX4_list_15 (lv_at hl 0 rfl) ?_
      refine lv_sipush (v := nI 4096) hx hb dX4_list_17 (by decide +kernel) ?_
      refine n_icmp_ge (tgt := 61) hx hb dX4_list_20 (by decide) (by omega) (by omega) (fun c_1175 => ?_) (fun c_1175 => ?_)
      · skip
        refine lv_bipush (v := (-2)) hx hb dX4_list_61 (by decide +kernel) ?_
        exact r_iI hx hb hr LB.nil (Nat.le_refl _) (Nat.le_refl _) ⟨⟨rfl, Or.inr ⟨b, hb4, rfl, Or.inr ⟨fun k hk => hv k (by omega), rfl⟩⟩⟩, _, _, hM, hR, hMK, MFr.rf⟩ dX4_list_63 hlocks
      · skip
        refine lv_iload_n hx hb dX4_list_23 rfl (lv_at hl 4 rfl) ?_
        refine lv_if_lt (tgt := 61) hx hb dX4_list_24 (by decide) (fun c_1176 => ?_) (fun c_1176 => ?_)
        · skip
          refine lv_bipush (v := (-2)) hx hb dX4_list_61 (by decide +kernel) ?_
          exact r_iI hx hb hr LB.nil (Nat.le_refl _) (Nat.le_refl _) ⟨⟨rfl, Or.inr ⟨b, hb4, rfl, Or.inr ⟨fun k hk _ => neg_nth c_1176 (by have := cnt_le (bt (sW σ (sH σ b))) k; omega), rfl⟩⟩⟩, _, _, hM, hR, hMK, MFr.rf⟩ dX4_list_63 hlocks
        · skip
          refine lv_aload_n hx hb dX4_list_27 rfl (lv_at hl 2 rfl) ?_
          refine lv_aload_n hx hb dX4_list_28 rfl (lv_at hl 2 rfl) ?_
          refine k_get (ci := 4) (C := RX4) (T := TX4) (N := 13) (v := .ref (μ 4)) hx hb hts (by decide +kernel) hown hK hM.o rfl 4 (by decide) rfl (hts (.fieldLink RX4 21 RX4 "heads" "[I") (by decide +kernel)) rfl dX4_list_29 ?_
          refine lv_iload_n hx hb dX4_list_32 rfl (lv_at hl 3 rfl) ?_
          refine k_iald hx hb hK hM.a4 (b) rfl (by omega) (by omega) dX4_list_33 ?_
          rw [show x 4 (b) = nI (sH σ b) from (hR.2.2.2.2 b hb4)]
          refine lv_iload hx hb dX4_list_34 (lv_at hl 0 rfl) ?_
          refine k_callX (va_runV (As := [.int (nI (sH σ b)), .int (nI i)]) (rest := []) ⟨hx, hb, hml, hown, hts⟩ (c_X4_has l D g b0 H μ (sV σ) (sB σ) (nC) x hM (by omega) (by omega) (by omega) (some (sH σ b)) (i) (by omega) (bt (sW σ (sH σ b)) i) (hR.has (o := some (sH σ b)) (fun p hp => by cases hp; exact hhd) (by omega))) (cwV 2 hts gX4_list_X4_has rfl rfl rfl (by decide +kernel) ⟨Nat.le_of_ble_eq_true rfl, Nat.le_of_ble_eq_true rfl⟩) ⟨kPc_blind, k_recv hK hM.o rfl, fun U hU hW => kPc_at hK hU hW⟩ rfl rfl hl.1 rfl (lv_room (Nat.le_of_ble_eq_true rfl)) dX4_list_36 ⟨Nat.le_of_ble_eq_true rfl, Nat.le_of_ble_eq_true rfl⟩) ?_
          refine z_if_ne (tgt := 45) hx hb dX4_list_39 (by decide) (fun c_1177 => ?_) (fun c_1177 => ?_)
          · skip
            refine lv_iload_n hx hb dX4_list_45 rfl (lv_at hl 1 rfl) ?_
            refine lv_if_ne (tgt := 52) hx hb dX4_list_46 (by decide) (fun c_1178 => ?_) (fun c_1178 => ?_)
            · skip
              refine lv_iinc (v := ix - nI (cnt (bt (sW σ (sH σ b))) i + 1)) (lv' := [(3, .int (ix - nI (cnt (bt (sW σ (sH σ b))) i + 1))), (4, .int (nI i)), (0, .ref (μ 0)), (1, .int (nI b)), (2, .int (ix))]) hx hb dX4_list_52 hl (k := 1) rfl (subS _ _) (by decide) rfl (fun ls hl => ?_)
              refine lv_iinc (v := nI (i + 1)) (lv' := [(4, .int (nI (i + 1))), (3, .int (ix - nI (cnt (bt (sW σ (sH σ b))) i + 1))), (0, .ref (μ 0)), (1, .int (nI b)), (2, .int (ix))]) hx hb dX4_list_55 hl (k := 1) rfl (nI_add (i) 1) (by decide) rfl (fun ls hl => ?_)
              refine lv_goto (tgt := 15) hx hb dX4_list_58 (by decide) ?_
              have hhp : (bt (sW σ (sH σ b))) i = true := c_1177
              refine ih (i + 1) (by omega) (by omega) (fun k hk hk2 => by
                rcases Nat.lt_or_ge k i with z | z
                · exact hv k z hk2
                · rw [show k = i by omega] at hk2 ⊢
                  exact fun e => c_1178 (sub0.mpr e)) ls ?_
              rw [cnt_t hhp]
              exact (lv_sub hl [0, 1, 2, 3, 4] rfl)
            · skip
              refine lv_iload hx hb dX4_list_49 (lv_at hl 0 rfl) ?_
              exact r_iI hx hb hr LB.nil (Nat.le_refl _) (Nat.le_refl _) ⟨⟨rfl, Or.inr ⟨b, hb4, rfl, Or.inl ⟨i, by omega, c_1177, sub0.mp c_1178, rfl⟩⟩⟩, _, _, hM, hR, hMK, MFr.rf⟩ dX4_list_51 hlocks
          · skip
            refine lv_goto (tgt := 55) hx hb dX4_list_42 (by decide) ?_
            refine lv_iinc (v := nI (i + 1)) (lv' := [(4, .int (nI (i + 1))), (3, .int (ix - nI (cnt (bt (sW σ (sH σ b))) i))), (0, .ref (μ 0)), (1, .int (nI b)), (2, .int (ix))]) hx hb dX4_list_55 hl (k := 0) rfl (nI_add (i) 1) (by decide) rfl (fun ls hl => ?_)
            refine lv_goto (tgt := 15) hx hb dX4_list_58 (by decide) ?_
            have hhp : (bt (sW σ (sH σ b))) i = false := c_1177
            refine ih (i + 1) (by omega) (by omega) (fun k hk hk2 => by
              rcases Nat.lt_or_ge k i with z | z
              · exact hv k z hk2
              · rw [show k = i by omega] at hk2 ⊢
                rw [hhp] at hk2; cases hk2) ls ?_
            rw [cnt_f hhp]
            exact (lv_sub hl [0, 1, 2, 3, 4] rfl)
  refine loop 4097 0 (by omega) (by omega) (fun k hk => absurd hk (Nat.not_lt_zero _)) ls ?_
  rw [show cnt (bt (sW σ (sH σ b))) 0 = 0 from rfl, ← sub00]
  exact (lv_sub hl [0, 1, 2, 3, 4] rfl)
theorem c_X4_list (l : Launch) (D : va_G) (g : Nat → ClassId) (b0 : Nat) (H : Heap) (μ : Nat → Nat) (σ : SG) (nC : Nat) (x : Nat → Nat → Int32) (hM : MC D g b0 μ (sV σ) (sB σ) nC x H) (hR : MR σ x) (hMK : MK σ nC x) (bi ix : Int32) : Met l yX4_list wsX4_list ({ frames := 1, cells := 0, slots := 0, locals := 22 } : Room) (kPc D g [.ref (μ 0), .int bi, .int ix] H) (kI (fun r H1 => SpList σ bi ix r σ ∧ MPost D g b0 μ H σ H1)) 0 0 (kF b0) := by
  rcases br_dec σ bi with h | ⟨b, hb4, rfl⟩
  · exact c_X4_list_n l D g b0 H μ σ nC x hM hR hMK bi ix h
  · exact c_X4_list_y l D g b0 H μ σ nC x hM hR hMK b hb4 ix
set_option maxHeartbeats 4000000 in
set_option maxRecDepth 100000 in
/-- patch_n1 -/
theorem c_X4_patch_n1 (l : Launch) (D : va_G) (g : Nat → ClassId) (b0 : Nat) (H : Heap) (μ : Nat → Nat) (σ : SG) (nC : Nat) (x : Nat → Nat → Int32) (hM : MC D g b0 μ (sV σ) (sB σ) nC x H) (hR : MR σ x) (hMK : MK σ nC x) (fi ti ix : Int32) (hN : VeN σ fi) : Met l yX4_patch wsX4_patch ({ frames := 1, cells := 0, slots := 0, locals := 22 } : Room) (kPc D g [.ref (μ 0), .int (fi), .int (ti), .int (ix)] H) (kI (fun r H1 => SpPatch σ fi ti ix r σ ∧ MPost D g b0 μ H σ H1)) 0 0 (kF b0) := by
  refine Met.ofW (cc := cX4_patch) (maxL := 6) (ret := (some .int)) (by decide) rfl ?_
  intro p e s m args below meth c s₁ B hml hv
  obtain ⟨rfl, hH, hK⟩ := hv
  have hx := B.exec
  have hb := B.bytes
  have hr := B.returns
  have hts := atoms_spec (ws := wsX4_patch) B.pre
  have hown : s.vm.findClass RX4 = some m.cls := findClass_of_methodNamed B.named
  have hlocks := B.notSynchronized
  rw [hH]
  have hl := lv_entry ([.ref (μ 0), .int (fi), .int (ti), .int (ix)]) (n := 6) (Nat.le_of_ble_eq_true rfl)
  rw [lg_entry_eq]
  generalize (lg_sl ([.ref (μ 0), .int (fi), .int (ti), .int (ix)]) ++ List.replicate (6 - (lg_sl ([.ref (μ 0), .int (fi), .int (ti), .int (ix)])).length) Slot.unset).toArray = ls at hl ⊢
  have hl : lv_has ls 6 [(0, .ref (μ 0)), (1, .int (fi)), (2, .int (ti)), (3, .int (ix))] := hl
  have hWF := hR.1
  have hV4 : sV σ ≤ 400 := hWF.2.1
  have hB4 : sB σ ≤ 40 := hWF.2.2.2.1
  have hC4 : nC ≤ 64 := hMK.le
  refine lv_aload_n hx hb dX4_patch_0 rfl (lv_at hl 0 rfl) ?_
  refine lv_iload_n hx hb dX4_patch_1 rfl (lv_at hl 1 rfl) ?_
  refine k_callX (va_runV (As := [.int (fi)]) (rest := []) ⟨hx, hb, hml, hown, hts⟩ (c_X4_isVersion_n l D g b0 H μ (sV σ) (sB σ) nC x hM hV4 hB4 hC4 fi hN) (cwV 1 hts gX4_patch_X4_isVersion rfl rfl rfl (by decide +kernel) ⟨Nat.le_of_ble_eq_true rfl, Nat.le_of_ble_eq_true rfl⟩) ⟨kPc_blind, k_recv hK hM.o rfl, fun U hU hW => kPc_at hK hU hW⟩ rfl rfl hl.1 rfl (lv_room (Nat.le_of_ble_eq_true rfl)) dX4_patch_2 ⟨Nat.le_of_ble_eq_true rfl, Nat.le_of_ble_eq_true rfl⟩) ?_
  refine z_if_eq (tgt := 16) hx hb dX4_patch_5 (by decide) (fun _ => ?_) (fun h => by cases h)
  refine lv_iconst (v := (-1)) hx hb dX4_patch_16 (by decide +kernel) ?_
  exact r_iI hx hb hr LB.nil (Nat.le_refl _) (Nat.le_refl _) ⟨⟨rfl, Or.inl ⟨Or.inl hN, rfl⟩⟩, _, _, hM, hR, hMK, MFr.rf⟩ dX4_patch_17 hlocks
set_option maxHeartbeats 4000000 in
set_option maxRecDepth 100000 in
/-- patch_n2 -/
theorem c_X4_patch_n2 (l : Launch) (D : va_G) (g : Nat → ClassId) (b0 : Nat) (H : Heap) (μ : Nat → Nat) (σ : SG) (nC : Nat) (x : Nat → Nat → Int32) (hM : MC D g b0 μ (sV σ) (sB σ) nC x H) (hR : MR σ x) (hMK : MK σ nC x) (mm : Nat) (hm : mm < sV σ) (ti ix : Int32) (hN : VeN σ ti) : Met l yX4_patch wsX4_patch ({ frames := 1, cells := 0, slots := 0, locals := 22 } : Room) (kPc D g [.ref (μ 0), .int (nI mm), .int (ti), .int (ix)] H) (kI (fun r H1 => SpPatch σ (nI mm) ti ix r σ ∧ MPost D g b0 μ H σ H1)) 0 0 (kF b0) := by
  refine Met.ofW (cc := cX4_patch) (maxL := 6) (ret := (some .int)) (by decide) rfl ?_
  intro p e s m args below meth c s₁ B hml hv
  obtain ⟨rfl, hH, hK⟩ := hv
  have hx := B.exec
  have hb := B.bytes
  have hr := B.returns
  have hts := atoms_spec (ws := wsX4_patch) B.pre
  have hown : s.vm.findClass RX4 = some m.cls := findClass_of_methodNamed B.named
  have hlocks := B.notSynchronized
  rw [hH]
  have hl := lv_entry ([.ref (μ 0), .int (nI mm), .int (ti), .int (ix)]) (n := 6) (Nat.le_of_ble_eq_true rfl)
  rw [lg_entry_eq]
  generalize (lg_sl ([.ref (μ 0), .int (nI mm), .int (ti), .int (ix)]) ++ List.replicate (6 - (lg_sl ([.ref (μ 0), .int (nI mm), .int (ti), .int (ix)])).length) Slot.unset).toArray = ls at hl ⊢
  have hl : lv_has ls 6 [(0, .ref (μ 0)), (1, .int (nI mm)), (2, .int (ti)), (3, .int (ix))] := hl
  have hWF := hR.1
  have hV4 : sV σ ≤ 400 := hWF.2.1
  have hB4 : sB σ ≤ 40 := hWF.2.2.2.1
  have hC4 : nC ≤ 64 := hMK.le
  refine lv_aload_n hx hb dX4_patch_0 rfl (lv_at hl 0 rfl) ?_
  refine lv_iload_n hx hb dX4_patch_1 rfl (lv_at hl 1 rfl) ?_
  refine k_callX (va_runV (As := [.int (nI mm)]) (rest := []) ⟨hx, hb, hml, hown, hts⟩ (c_X4_isVersion_y l D g b0 H μ (sV σ) (sB σ) nC x hM hV4 hB4 hC4 mm hm) (cwV 1 hts gX4_patch_X4_isVersion rfl rfl rfl (by decide +kernel) ⟨Nat.le_of_ble_eq_true rfl, Nat.le_of_ble_eq_true rfl⟩) ⟨kPc_blind, k_recv hK hM.o rfl, fun U hU hW => kPc_at hK hU hW⟩ rfl rfl hl.1 rfl (lv_room (Nat.le_of_ble_eq_true rfl)) dX4_patch_2 ⟨Nat.le_of_ble_eq_true rfl, Nat.le_of_ble_eq_true rfl⟩) ?_
  refine z_if_eq (tgt := 16) hx hb dX4_patch_5 (by decide) (fun h => by cases h) (fun _ => ?_)
  refine lv_aload_n hx hb dX4_patch_8 rfl (lv_at hl 0 rfl) ?_
  refine lv_iload_n hx hb dX4_patch_9 rfl (lv_at hl 2 rfl) ?_
  refine k_callX (va_runV (As := [.int (ti)]) (rest := []) ⟨hx, hb, hml, hown, hts⟩ (c_X4_isVersion_n l D g b0 H μ (sV σ) (sB σ) nC x hM hV4 hB4 hC4 ti hN) (cwV 1 hts gX4_patch_X4_isVersion rfl rfl rfl (by decide +kernel) ⟨Nat.le_of_ble_eq_true rfl, Nat.le_of_ble_eq_true rfl⟩) ⟨kPc_blind, k_recv hK hM.o rfl, fun U hU hW => kPc_at hK hU hW⟩ rfl rfl hl.1 rfl (lv_room (Nat.le_of_ble_eq_true rfl)) dX4_patch_10 ⟨Nat.le_of_ble_eq_true rfl, Nat.le_of_ble_eq_true rfl⟩) ?_
  refine z_if_ne (tgt := 18) hx hb dX4_patch_13 (by decide) (fun h => by cases h) (fun _ => ?_)
  refine lv_iconst (v := (-1)) hx hb dX4_patch_16 (by decide +kernel) ?_
  exact r_iI hx hb hr LB.nil (Nat.le_refl _) (Nat.le_refl _) ⟨⟨rfl, Or.inl ⟨Or.inr hN, rfl⟩⟩, _, _, hM, hR, hMK, MFr.rf⟩ dX4_patch_17 hlocks
set_option maxHeartbeats 4000000 in
set_option maxRecDepth 100000 in
/-- patch_y -/
theorem c_X4_patch_y (l : Launch) (D : va_G) (g : Nat → ClassId) (b0 : Nat) (H : Heap) (μ : Nat → Nat) (σ : SG) (nC : Nat) (x : Nat → Nat → Int32) (hM : MC D g b0 μ (sV σ) (sB σ) nC x H) (hR : MR σ x) (hMK : MK σ nC x) (mm n : Nat) (hm : mm < sV σ) (hn : n < sV σ) (ix : Int32) : Met l yX4_patch wsX4_patch ({ frames := 1, cells := 0, slots := 0, locals := 22 } : Room) (kPc D g [.ref (μ 0), .int (nI mm), .int (nI n), .int (ix)] H) (kI (fun r H1 => SpPatch σ (nI mm) (nI n) ix r σ ∧ MPost D g b0 μ H σ H1)) 0 0 (kF b0) := by
  refine Met.ofW (cc := cX4_patch) (maxL := 6) (ret := (some .int)) (by decide) rfl ?_
  intro p e s m args below meth c s₁ B hml hv
  obtain ⟨rfl, hH, hK⟩ := hv
  have hx := B.exec
  have hb := B.bytes
  have hr := B.returns
  have hts := atoms_spec (ws := wsX4_patch) B.pre
  have hown : s.vm.findClass RX4 = some m.cls := findClass_of_methodNamed B.named
  have hlocks := B.notSynchronized
  rw [hH]
  have hl := lv_entry ([.ref (μ 0), .int (nI mm), .int (nI n), .int (ix)]) (n := 6) (Nat.le_of_ble_eq_true rfl)
  rw [lg_entry_eq]
  generalize (lg_sl ([.ref (μ 0), .int (nI mm), .int (nI n), .int (ix)]) ++ List.replicate (6 - (lg_sl ([.ref (μ 0), .int (nI mm), .int (nI n), .int (ix)])).length) Slot.unset).toArray = ls at hl ⊢
  have hl : lv_has ls 6 [(0, .ref (μ 0)), (1, .int (nI mm)), (2, .int (nI n)), (3, .int (ix))] := hl
  have hWF := hR.1
  have hV4 : sV σ ≤ 400 := hWF.2.1
  have hB4 : sB σ ≤ 40 := hWF.2.2.2.1
  have hC4 : nC ≤ 64 := hMK.le
  refine lv_aload_n hx hb dX4_patch_0 rfl (lv_at hl 0 rfl) ?_
  refine lv_iload_n hx hb dX4_patch_1 rfl (lv_at hl 1 rfl) ?_
  refine k_callX (va_runV (As := [.int (nI mm)]) (rest := []) ⟨hx, hb, hml, hown, hts⟩ (c_X4_isVersion_y l D g b0 H μ (sV σ) (sB σ) nC x hM hV4 hB4 hC4 mm hm) (cwV 1 hts gX4_patch_X4_isVersion rfl rfl rfl (by decide +kernel) ⟨Nat.le_of_ble_eq_true rfl, Nat.le_of_ble_eq_true rfl⟩) ⟨kPc_blind, k_recv hK hM.o rfl, fun U hU hW => kPc_at hK hU hW⟩ rfl rfl hl.1 rfl (lv_room (Nat.le_of_ble_eq_true rfl)) dX4_patch_2 ⟨Nat.le_of_ble_eq_true rfl, Nat.le_of_ble_eq_true rfl⟩) ?_
  refine z_if_eq (tgt := 16) hx hb dX4_patch_5 (by decide) (fun h => by cases h) (fun _ => ?_)
  refine lv_aload_n hx hb dX4_patch_8 rfl (lv_at hl 0 rfl) ?_
  refine lv_iload_n hx hb dX4_patch_9 rfl (lv_at hl 2 rfl) ?_
  refine k_callX (va_runV (As := [.int (nI n)]) (rest := []) ⟨hx, hb, hml, hown, hts⟩ (c_X4_isVersion_y l D g b0 H μ (sV σ) (sB σ) nC x hM hV4 hB4 hC4 n hn) (cwV 1 hts gX4_patch_X4_isVersion rfl rfl rfl (by decide +kernel) ⟨Nat.le_of_ble_eq_true rfl, Nat.le_of_ble_eq_true rfl⟩) ⟨kPc_blind, k_recv hK hM.o rfl, fun U hU hW => kPc_at hK hU hW⟩ rfl rfl hl.1 rfl (lv_room (Nat.le_of_ble_eq_true rfl)) dX4_patch_10 ⟨Nat.le_of_ble_eq_true rfl, Nat.le_of_ble_eq_true rfl⟩) ?_
  refine z_if_ne (tgt := 18) hx hb dX4_patch_13 (by decide) (fun _ => ?_) (fun h => by cases h)
  refine lv_iload_n hx hb dX4_patch_18 rfl (lv_at hl 3 rfl) ?_
  refine lv_istore (lv' := [(4, .int (ix)), (0, .ref (μ 0)), (1, .int (nI mm)), (2, .int (nI n)), (3, .int (ix))]) hx hb dX4_patch_19 hl (by decide) rfl (fun ls hl => ?_)
  refine lv_iconst (v := nI 0) hx hb dX4_patch_21 (by decide +kernel) ?_
  refine lv_istore (lv' := [(5, .int (nI 0)), (4, .int (ix)), (0, .ref (μ 0)), (1, .int (nI mm)), (2, .int (nI n)), (3, .int (ix))]) hx hb dX4_patch_22 hl (by decide) rfl (fun ls hl => ?_)
  have loop : ∀ (N i : Nat), 4096 < i + N → i ≤ 4096 → (∀ k, k < i → (dif σ mm n) k = true → ¬ nI (cnt (dif σ mm n) k) = ix) → ∀ ls, lv_has ls 6 [(5, .int (nI i)), (4, .int (ix - nI (cnt (dif σ mm n) i))), (0, .ref (μ 0)), (1, .int (nI mm)), (2, .int (nI n)), (3, .int (ix))] → W p l e (headSpec wsX4_patch ({ frames := 1, cells := 0, slots := 0, locals := 22 } : Room)).room s m ([.ref (μ 0), .int (nI mm), .int (nI n), .int (ix)] : List Value).toArray below meth c H [] 0 0 (MQ below (kI (fun r H1 => SpPatch σ (nI mm) (nI n) ix r σ ∧ MPost D g b0 μ H σ H1)) ([.ref (μ 0), .int (nI mm), .int (nI n), .int (ix)] : List Value).toArray s 0 0 (kF b0)) (F0 m 24 ls []) := by
    intro N
    induction N with
    | zero => intro i h0 h1; omega
    | succ N ih =>
      intro i hN hi hv ls hl
      have hcl := cnt_le (dif σ mm n) i
      refine lv_iload hx hb dX4_patch_24 (lv_at hl 0 rfl) ?_
      refine lv_sipush (v := nI 4096) hx hb dX4_patch_26 (by decide +kernel) ?_
      refine n_icmp_ge (tgt := 91) hx hb dX4_patch_29 (by decide) (by omega) (by omega) (fun c_1179 => ?_) (fun c_1179 => ?_)
      · skip
        refine lv_bipush (v := (-2)) hx hb dX4_patch_91 (by decide +kernel) ?_
        exact r_iI hx hb hr LB.nil (Nat.le_refl _) (Nat.le_refl _) ⟨⟨rfl, Or.inr ⟨mm, n, hm, hn, rfl, rfl, Or.inr ⟨fun k hk => hv k (by omega), rfl⟩⟩⟩, _, _, hM, hR, hMK, MFr.rf⟩ dX4_patch_93 hlocks
      · skip
        refine lv_iload_n hx hb dX4_patch_32 rfl (lv_at hl 5 rfl) ?_
        refine lv_if_lt (tgt := 91) hx hb dX4_patch_33 (by decide) (fun c_1180 => ?_) (fun c_1180 => ?_)
        · skip
          refine lv_bipush (v := (-2)) hx hb dX4_patch_91 (by decide +kernel) ?_
          exact r_iI hx hb hr LB.nil (Nat.le_refl _) (Nat.le_refl _) ⟨⟨rfl, Or.inr ⟨mm, n, hm, hn, rfl, rfl, Or.inr ⟨fun k hk _ => neg_nth c_1180 (by have := cnt_le (dif σ mm n) k; omega), rfl⟩⟩⟩, _, _, hM, hR, hMK, MFr.rf⟩ dX4_patch_93 hlocks
        · skip
          refine lv_aload_n hx hb dX4_patch_36 rfl (lv_at hl 2 rfl) ?_
          refine lv_iload_n hx hb dX4_patch_37 rfl (lv_at hl 3 rfl) ?_
          refine lv_iload hx hb dX4_patch_38 (lv_at hl 0 rfl) ?_
          refine k_callX (va_runV (As := [.int (nI mm), .int (nI i)]) (rest := []) ⟨hx, hb, hml, hown, hts⟩ (c_X4_has l D g b0 H μ (sV σ) (sB σ) (nC) x hM (by omega) (by omega) (by omega) (some mm) (i) (by omega) (bt (sW σ mm) i) (hR.has (o := some mm) (fun p hp => by cases hp; exact hm) (by omega))) (cwV 2 hts gX4_patch_X4_has rfl rfl rfl (by decide +kernel) ⟨Nat.le_of_ble_eq_true rfl, Nat.le_of_ble_eq_true rfl⟩) ⟨kPc_blind, k_recv hK hM.o rfl, fun U hU hW => kPc_at hK hU hW⟩ rfl rfl hl.1 rfl (lv_room (Nat.le_of_ble_eq_true rfl)) dX4_patch_40 ⟨Nat.le_of_ble_eq_true rfl, Nat.le_of_ble_eq_true rfl⟩) ?_
          refine lv_aload_n hx hb dX4_patch_43 rfl (lv_at hl 2 rfl) ?_
          refine lv_iload_n hx hb dX4_patch_44 rfl (lv_at hl 4 rfl) ?_
          refine lv_iload hx hb dX4_patch_45 (lv_at hl 0 rfl) ?_
          refine k_callX (va_runV (As := [.int (nI n), .int (nI i)]) (rest := [.int (b2i (bt (sW σ mm) i))]) ⟨hx, hb, hml, hown, hts⟩ (c_X4_has l D g b0 H μ (sV σ) (sB σ) (nC) x hM (by omega) (by omega) (by omega) (some n) (i) (by omega) (bt (sW σ n) i) (hR.has (o := some n) (fun p hp => by cases hp; exact hn) (by omega))) (cwV 2 hts gX4_patch_X4_has rfl rfl rfl (by decide +kernel) ⟨Nat.le_of_ble_eq_true rfl, Nat.le_of_ble_eq_true rfl⟩) ⟨kPc_blind, k_recv hK hM.o rfl, fun U hU hW => kPc_at hK hU hW⟩ rfl rfl hl.1 rfl (lv_room (Nat.le_of_ble_eq_true rfl)) dX4_patch_47 ⟨Nat.le_of_ble_eq_true rfl, Nat.le_of_ble_eq_true rfl⟩) ?_
          refine z_icmp_ne (tgt := 56) hx hb dX4_patch_50 (by decide) (fun c_1181 => ?_) (fun c_1181 => ?_)
          · skip
            refine lv_iload hx hb dX4_patch_56 (lv_at hl 1 rfl) ?_
            refine lv_if_ne (tgt := 82) hx hb dX4_patch_58 (by decide) (fun c_1182 => ?_) (fun c_1182 => ?_)
            · skip
              refine lv_iinc (v := ix - nI (cnt (dif σ mm n) i + 1)) (lv' := [(4, .int (ix - nI (cnt (dif σ mm n) i + 1))), (5, .int (nI i)), (0, .ref (μ 0)), (1, .int (nI mm)), (2, .int (nI n)), (3, .int (ix))]) hx hb dX4_patch_82 hl (k := 1) rfl (subS _ _) (by decide) rfl (fun ls hl => ?_)
              refine lv_iinc (v := nI (i + 1)) (lv' := [(5, .int (nI (i + 1))), (4, .int (ix - nI (cnt (dif σ mm n) i + 1))), (0, .ref (μ 0)), (1, .int (nI mm)), (2, .int (nI n)), (3, .int (ix))]) hx hb dX4_patch_85 hl (k := 1) rfl (nI_add (i) 1) (by decide) rfl (fun ls hl => ?_)
              refine lv_goto (tgt := 24) hx hb dX4_patch_88 (by decide) ?_
              have hhp : (dif σ mm n) i = true := nbeq_t c_1181
              refine ih (i + 1) (by omega) (by omega) (fun k hk hk2 => by
                rcases Nat.lt_or_ge k i with z | z
                · exact hv k z hk2
                · rw [show k = i by omega] at hk2 ⊢
                  exact fun e => c_1182 (sub0.mpr e)) ls ?_
              rw [cnt_t hhp]
              exact (lv_sub hl [0, 1, 2, 3, 4, 5] rfl)
            · skip
              refine lv_aload_n hx hb dX4_patch_61 rfl (lv_at hl 2 rfl) ?_
              refine lv_iload_n hx hb dX4_patch_62 rfl (lv_at hl 4 rfl) ?_
              refine lv_iload hx hb dX4_patch_63 (lv_at hl 0 rfl) ?_
              refine k_callX (va_runV (As := [.int (nI n), .int (nI i)]) (rest := []) ⟨hx, hb, hml, hown, hts⟩ (c_X4_has l D g b0 H μ (sV σ) (sB σ) (nC) x hM (by omega) (by omega) (by omega) (some n) (i) (by omega) (bt (sW σ n) i) (hR.has (o := some n) (fun p hp => by cases hp; exact hn) (by omega))) (cwV 2 hts gX4_patch_X4_has rfl rfl rfl (by decide +kernel) ⟨Nat.le_of_ble_eq_true rfl, Nat.le_of_ble_eq_true rfl⟩) ⟨kPc_blind, k_recv hK hM.o rfl, fun U hU hW => kPc_at hK hU hW⟩ rfl rfl hl.1 rfl (lv_room (Nat.le_of_ble_eq_true rfl)) dX4_patch_65 ⟨Nat.le_of_ble_eq_true rfl, Nat.le_of_ble_eq_true rfl⟩) ?_
              refine z_if_eq (tgt := 76) hx hb dX4_patch_68 (by decide) (fun c_1183 => ?_) (fun c_1183 => ?_)
              · skip
                refine lv_bipush (v := (-10)) hx hb dX4_patch_76 (by decide +kernel) ?_
                refine lv_iload hx hb dX4_patch_78 (lv_at hl 0 rfl) ?_
                refine lv_isub hx hb dX4_patch_80 ?_
                exact r_iI hx hb hr LB.nil (Nat.le_refl _) (Nat.le_refl _) ⟨⟨rfl, Or.inr ⟨mm, n, hm, hn, rfl, rfl, Or.inl ⟨i, by omega, nbeq_t c_1181, sub0.mp c_1182, by rw [c_1183]; rfl⟩⟩⟩, _, _, hM, hR, hMK, MFr.rf⟩ dX4_patch_81 hlocks
              · skip
                refine lv_iload hx hb dX4_patch_71 (lv_at hl 0 rfl) ?_
                refine lv_goto (tgt := 81) hx hb dX4_patch_73 (by decide) ?_
                exact r_iI hx hb hr LB.nil (Nat.le_refl _) (Nat.le_refl _) ⟨⟨rfl, Or.inr ⟨mm, n, hm, hn, rfl, rfl, Or.inl ⟨i, by omega, nbeq_t c_1181, sub0.mp c_1182, by rw [c_1183]; rfl⟩⟩⟩, _, _, hM, hR, hMK, MFr.rf⟩ dX4_patch_81 hlocks
          · skip
            refine lv_goto (tgt := 85) hx hb dX4_patch_53 (by decide) ?_
            refine lv_iinc (v := nI (i + 1)) (lv' := [(5, .int (nI (i + 1))), (4, .int (ix - nI (cnt (dif σ mm n) i))), (0, .ref (μ 0)), (1, .int (nI mm)), (2, .int (nI n)), (3, .int (ix))]) hx hb dX4_patch_85 hl (k := 0) rfl (nI_add (i) 1) (by decide) rfl (fun ls hl => ?_)
            refine lv_goto (tgt := 24) hx hb dX4_patch_88 (by decide) ?_
            have hhp : (dif σ mm n) i = false := nbeq_f c_1181
            refine ih (i + 1) (by omega) (by omega) (fun k hk hk2 => by
              rcases Nat.lt_or_ge k i with z | z
              · exact hv k z hk2
              · rw [show k = i by omega] at hk2 ⊢
                rw [hhp] at hk2; cases hk2) ls ?_
            rw [cnt_f hhp]
            exact (lv_sub hl [0, 1, 2, 3, 4, 5] rfl)
  refine loop 4097 0 (by omega) (by omega) (fun k hk => absurd hk (Nat.not_lt_zero _)) ls ?_
  rw [show cnt (dif σ mm n) 0 = 0 from rfl, ← sub00]
  exact (lv_sub hl [0, 1, 2, 3, 4, 5] rfl)
theorem c_X4_patch (l : Launch) (D : va_G) (g : Nat → ClassId) (b0 : Nat) (H : Heap) (μ : Nat → Nat) (σ : SG) (nC : Nat) (x : Nat → Nat → Int32) (hM : MC D g b0 μ (sV σ) (sB σ) nC x H) (hR : MR σ x) (hMK : MK σ nC x) (fi ti ix : Int32) : Met l yX4_patch wsX4_patch ({ frames := 1, cells := 0, slots := 0, locals := 22 } : Room) (kPc D g [.ref (μ 0), .int fi, .int ti, .int ix] H) (kI (fun r H1 => SpPatch σ fi ti ix r σ ∧ MPost D g b0 μ H σ H1)) 0 0 (kF b0) := by
  rcases ve_dec σ fi with h | ⟨m, hm, rfl⟩
  · exact c_X4_patch_n1 l D g b0 H μ σ nC x hM hR hMK fi ti ix h
  · rcases ve_dec σ ti with h | ⟨n, hn, rfl⟩
    · exact c_X4_patch_n2 l D g b0 H μ σ nC x hM hR hMK m hm ti ix h
    · exact c_X4_patch_y l D g b0 H μ σ nC x hM hR hMK m n hm hn ix
set_option maxHeartbeats 4000000 in
set_option maxRecDepth 100000 in
/-- history -/
theorem c_X4_history (l : Launch) (D : va_G) (g : Nat → ClassId) (b0 : Nat) (H : Heap) (μ : Nat → Nat) (σ : SG) (nC : Nat) (x : Nat → Nat → Int32) (hM : MC D g b0 μ (sV σ) (sB σ) nC x H) (hR : MR σ x) (hMK : MK σ nC x) (ti ix : Int32) : Met l yX4_history wsX4_history ({ frames := 1, cells := 0, slots := 0, locals := 22 } : Room) (kPc D g [.ref (μ 0), .int (ti), .int (ix)] H) (kI (fun r H1 => SpHistory σ ti ix r σ ∧ MPost D g b0 μ H σ H1)) 0 0 (kF b0) := by
  refine Met.ofW (cc := cX4_history) (maxL := 5) (ret := (some .int)) (by decide) rfl ?_
  intro p e s m args below meth c s₁ B hml hv
  obtain ⟨rfl, hH, hK⟩ := hv
  have hx := B.exec
  have hb := B.bytes
  have hr := B.returns
  have hts := atoms_spec (ws := wsX4_history) B.pre
  have hown : s.vm.findClass RX4 = some m.cls := findClass_of_methodNamed B.named
  have hlocks := B.notSynchronized
  rw [hH]
  have hl := lv_entry ([.ref (μ 0), .int (ti), .int (ix)]) (n := 5) (Nat.le_of_ble_eq_true rfl)
  rw [lg_entry_eq]
  generalize (lg_sl ([.ref (μ 0), .int (ti), .int (ix)]) ++ List.replicate (5 - (lg_sl ([.ref (μ 0), .int (ti), .int (ix)])).length) Slot.unset).toArray = ls at hl ⊢
  have hl : lv_has ls 5 [(0, .ref (μ 0)), (1, .int (ti)), (2, .int (ix))] := hl
  have hWF := hR.1
  have hV4 : sV σ ≤ 400 := hWF.2.1
  have hB4 : sB σ ≤ 40 := hWF.2.2.2.1
  have hC4 : nC ≤ 64 := hMK.le
  refine lv_iload_n hx hb dX4_history_0 rfl (lv_at hl 1 rfl) ?_
  refine k_callX (va_runS (As := [.int (ti)]) (rest := []) ⟨hx, hb, hml, hown, hts⟩ (c_X4_isTriple l D g H ti) (va_cwS 1 hts gX4_history_X4_isTriple rfl rfl rfl (by decide +kernel) ⟨Nat.le_of_ble_eq_true rfl, Nat.le_of_ble_eq_true rfl⟩) ⟨kPc_blind, fun U hU hW => kPc_at hK hU hW⟩ rfl rfl hl.1 rfl (lv_room (Nat.le_of_ble_eq_true rfl)) dX4_history_1 ⟨Nat.le_of_ble_eq_true rfl, Nat.le_of_ble_eq_true rfl⟩) ?_
  refine z_if_eq (tgt := 11) hx hb dX4_history_4 (by decide) (fun c_1184 => ?_) (fun c_1184 => ?_)
  · skip
    refine lv_bipush (v := (-2)) hx hb dX4_history_11 (by decide +kernel) ?_
    exact r_iI hx hb hr LB.nil (Nat.le_refl _) (Nat.le_refl _) ⟨⟨rfl, Or.inl ⟨Or.inl c_1184, rfl⟩⟩, _, _, hM, hR, hMK, MFr.rf⟩ dX4_history_13 hlocks
  · skip
    refine lv_iload_n hx hb dX4_history_7 rfl (lv_at hl 2 rfl) ?_
    refine lv_if_ge (tgt := 14) hx hb dX4_history_8 (by decide) (fun c_1185 => ?_) (fun c_1185 => ?_)
    · skip
      refine lv_iload_n hx hb dX4_history_14 rfl (lv_at hl 2 rfl) ?_
      refine lv_istore_n (lv' := [(3, .int (ix)), (0, .ref (μ 0)), (1, .int (ti)), (2, .int (ix))]) hx hb dX4_history_15 rfl hl (by decide) rfl (fun ls hl => ?_)
      refine lv_iconst (v := nI 0) hx hb dX4_history_16 (by decide +kernel) ?_
      refine lv_istore (lv' := [(4, .int (nI 0)), (3, .int (ix)), (0, .ref (μ 0)), (1, .int (ti)), (2, .int (ix))]) hx hb dX4_history_17 hl (by decide) rfl (fun ls hl => ?_)
      obtain ⟨t, ht, rfl⟩ := isTb_ex c_1184
      have loop : ∀ (N i : Nat), sV σ < i + N → i ≤ sV σ → (∀ k, k < i → (hisP σ t) k = true → ¬ nI (cnt (hisP σ t) k) = ix) → ∀ ls, lv_has ls 5 [(4, .int (nI i)), (3, .int (ix - nI (cnt (hisP σ t) i))), (0, .ref (μ 0)), (1, .int (nI t)), (2, .int ix)] → W p l e (headSpec wsX4_history ({ frames := 1, cells := 0, slots := 0, locals := 22 } : Room)).room s m ([.ref (μ 0), .int (nI t), .int (ix)] : List Value).toArray below meth c H [] 0 0 (MQ below (kI (fun r H1 => SpHistory σ (nI t) ix r σ ∧ MPost D g b0 μ H σ H1)) ([.ref (μ 0), .int (nI t), .int (ix)] : List Value).toArray s 0 0 (kF b0)) (F0 m 19 ls []) := by
        intro N
        induction N with
        | zero => intro i h0 h1; omega
        | succ N ih =>
          intro i hN hi hv ls hl
          have hcl := cnt_le (hisP σ t) i
          refine lv_iload hx hb dX4_history_19 (lv_at hl 0 rfl) ?_
          refine lv_aload_n hx hb dX4_history_21 rfl (lv_at hl 2 rfl) ?_
          refine k_get (ci := 4) (C := RX4) (T := TX4) (N := 13) (v := .int (nI (sV σ))) hx hb hts (by decide +kernel) hown hK hM.o rfl 3 (by decide) rfl (hts (.fieldLink RX4 43 RX4 "versions" "I") (by decide +kernel)) rfl dX4_history_22 ?_
          refine n_icmp_ge (tgt := 79) hx hb dX4_history_25 (by decide) (by omega) (by omega) (fun c_1186 => ?_) (fun c_1186 => ?_)
          · skip
            refine lv_bipush (v := (-2)) hx hb dX4_history_79 (by decide +kernel) ?_
            exact r_iI hx hb hr LB.nil (Nat.le_refl _) (Nat.le_refl _) ⟨⟨rfl, Or.inr ⟨t, ht, rfl, Int32.not_lt.mpr c_1185, Or.inr ⟨fun k hk => hv k (by omega), rfl⟩⟩⟩, _, _, hM, hR, hMK, MFr.rf⟩ dX4_history_81 hlocks
          · skip
            have hfo : OLt (sF σ i) (sV σ) := fun p hp => Nat.lt_trans ((hWF.2.2.2.2.2 i (by omega)).1 p hp) (by omega)
            rcases hse : sS σ i with _ | p2
            · skip
              refine lv_aload_n hx hb dX4_history_28 rfl (lv_at hl 2 rfl) ?_
              refine k_get (ci := 4) (C := RX4) (T := TX4) (N := 13) (v := .ref (μ 3)) hx hb hts (by decide +kernel) hown hK hM.o rfl 2 (by decide) rfl (hts (.fieldLink RX4 18 RX4 "seconds" "[I") (by decide +kernel)) rfl dX4_history_29 ?_
              refine lv_iload hx hb dX4_history_32 (lv_at hl 0 rfl) ?_
              refine k_iald hx hb hK hM.a3 (i) rfl (by omega) (by omega) dX4_history_34 ?_
              rw [show x 3 (i) = (-1) from (by have q := hR.2.2.2.1 i (by omega); rw [hse] at q; exact q)]
              refine lv_if_ge (tgt := 73) hx hb dX4_history_35 (by decide) (fun q => absurd q (by decide)) (fun _ => ?_)
              refine lv_aload_n hx hb dX4_history_38 rfl (lv_at hl 2 rfl) ?_
              refine lv_iload hx hb dX4_history_39 (lv_at hl 0 rfl) ?_
              refine lv_iload_n hx hb dX4_history_41 rfl (lv_at hl 3 rfl) ?_
              refine k_callX (va_runV (As := [.int (nI i), .int (nI t)]) (rest := []) ⟨hx, hb, hml, hown, hts⟩ (c_X4_has l D g b0 H μ (sV σ) (sB σ) (nC) x hM (by omega) (by omega) (by omega) (some i) (t) (by omega) (bt (sW σ i) t) (hR.has (o := some i) (fun p hp => by cases hp; omega) ht)) (cwV 2 hts gX4_history_X4_has rfl rfl rfl (by decide +kernel) ⟨Nat.le_of_ble_eq_true rfl, Nat.le_of_ble_eq_true rfl⟩) ⟨kPc_blind, k_recv hK hM.o rfl, fun U hU hW => kPc_at hK hU hW⟩ rfl rfl hl.1 rfl (lv_room (Nat.le_of_ble_eq_true rfl)) dX4_history_42 ⟨Nat.le_of_ble_eq_true rfl, Nat.le_of_ble_eq_true rfl⟩) ?_
              refine lv_aload_n hx hb dX4_history_45 rfl (lv_at hl 2 rfl) ?_
              refine lv_aload_n hx hb dX4_history_46 rfl (lv_at hl 2 rfl) ?_
              refine k_get (ci := 4) (C := RX4) (T := TX4) (N := 13) (v := .ref (μ 2)) hx hb hts (by decide +kernel) hown hK hM.o rfl 1 (by decide) rfl (hts (.fieldLink RX4 14 RX4 "firsts" "[I") (by decide +kernel)) rfl dX4_history_47 ?_
              refine lv_iload hx hb dX4_history_50 (lv_at hl 0 rfl) ?_
              refine k_iald hx hb hK hM.a2 (i) rfl (by omega) (by omega) dX4_history_52 ?_
              rw [show x 2 (i) = pI (sF σ i) from (hR.2.2.1 i (by omega))]
              refine lv_iload_n hx hb dX4_history_53 rfl (lv_at hl 3 rfl) ?_
              refine k_callX (va_runV (As := [.int (pI (sF σ i)), .int (nI t)]) (rest := [.int (b2i (bt (sW σ i) t))]) ⟨hx, hb, hml, hown, hts⟩ (c_X4_has l D g b0 H μ (sV σ) (sB σ) (nC) x hM (by omega) (by omega) (by omega) (sF σ i) (t) (by omega) (obit σ (sF σ i) t) (hR.has hfo ht)) (cwV 2 hts gX4_history_X4_has rfl rfl rfl (by decide +kernel) ⟨Nat.le_of_ble_eq_true rfl, Nat.le_of_ble_eq_true rfl⟩) ⟨kPc_blind, k_recv hK hM.o rfl, fun U hU hW => kPc_at hK hU hW⟩ rfl rfl hl.1 rfl (lv_room (Nat.le_of_ble_eq_true rfl)) dX4_history_54 ⟨Nat.le_of_ble_eq_true rfl, Nat.le_of_ble_eq_true rfl⟩) ?_
              refine z_icmp_ne (tgt := 63) hx hb dX4_history_57 (by decide) (fun c_1187 => ?_) (fun c_1187 => ?_)
              · skip
                refine lv_iload_n hx hb dX4_history_63 rfl (lv_at hl 1 rfl) ?_
                refine lv_if_ne (tgt := 70) hx hb dX4_history_64 (by decide) (fun c_1188 => ?_) (fun c_1188 => ?_)
                · skip
                  refine lv_iinc (v := ix - nI (cnt (hisP σ t) i + 1)) (lv' := [(3, .int (ix - nI (cnt (hisP σ t) i + 1))), (4, .int (nI i)), (0, .ref (μ 0)), (1, .int (nI t)), (2, .int (ix))]) hx hb dX4_history_70 hl (k := 1) rfl (subS _ _) (by decide) rfl (fun ls hl => ?_)
                  refine lv_iinc (v := nI (i + 1)) (lv' := [(4, .int (nI (i + 1))), (3, .int (ix - nI (cnt (hisP σ t) i + 1))), (0, .ref (μ 0)), (1, .int (nI t)), (2, .int (ix))]) hx hb dX4_history_73 hl (k := 1) rfl (nI_add (i) 1) (by decide) rfl (fun ls hl => ?_)
                  refine lv_goto (tgt := 19) hx hb dX4_history_76 (by decide) ?_
                  have hhp : hisP σ t i = true := by unfold hisP; rw [hse, befW_bit σ i ht, nbeq_t c_1187]; rfl
                  refine ih (i + 1) (by omega) (by omega) (fun k hk hk2 => by
                    rcases Nat.lt_or_ge k i with z | z
                    · exact hv k z hk2
                    · rw [show k = i by omega] at hk2 ⊢
                      exact fun e => c_1188 (sub0.mpr e)) ls ?_
                  rw [cnt_t hhp]
                  exact (lv_sub hl [0, 1, 2, 3, 4] rfl)
                · skip
                  refine lv_iload hx hb dX4_history_67 (lv_at hl 0 rfl) ?_
                  exact r_iI hx hb hr LB.nil (Nat.le_refl _) (Nat.le_refl _) ⟨⟨rfl, Or.inr ⟨t, ht, rfl, Int32.not_lt.mpr c_1185, Or.inl ⟨i, by omega, by unfold hisP; rw [hse, befW_bit σ i ht, nbeq_t c_1187]; rfl, sub0.mp c_1188, rfl⟩⟩⟩, _, _, hM, hR, hMK, MFr.rf⟩ dX4_history_69 hlocks
              · skip
                refine lv_goto (tgt := 73) hx hb dX4_history_60 (by decide) ?_
                refine lv_iinc (v := nI (i + 1)) (lv' := [(4, .int (nI (i + 1))), (3, .int (ix - nI (cnt (hisP σ t) i))), (0, .ref (μ 0)), (1, .int (nI t)), (2, .int (ix))]) hx hb dX4_history_73 hl (k := 0) rfl (nI_add (i) 1) (by decide) rfl (fun ls hl => ?_)
                refine lv_goto (tgt := 19) hx hb dX4_history_76 (by decide) ?_
                have hhp : hisP σ t i = false := by unfold hisP; rw [hse, befW_bit σ i ht, nbeq_f c_1187]; rfl
                refine ih (i + 1) (by omega) (by omega) (fun k hk hk2 => by
                  rcases Nat.lt_or_ge k i with z | z
                  · exact hv k z hk2
                  · rw [show k = i by omega] at hk2 ⊢
                    rw [hhp] at hk2; cases hk2) ls ?_
                rw [cnt_f hhp]
                exact (lv_sub hl [0, 1, 2, 3, 4] rfl)
            · skip
              have hp2 := (hWF.2.2.2.2.2 i (by omega)).2.1 p2 hse
              refine lv_aload_n hx hb dX4_history_28 rfl (lv_at hl 2 rfl) ?_
              refine k_get (ci := 4) (C := RX4) (T := TX4) (N := 13) (v := .ref (μ 3)) hx hb hts (by decide +kernel) hown hK hM.o rfl 2 (by decide) rfl (hts (.fieldLink RX4 18 RX4 "seconds" "[I") (by decide +kernel)) rfl dX4_history_29 ?_
              refine lv_iload hx hb dX4_history_32 (lv_at hl 0 rfl) ?_
              refine k_iald hx hb hK hM.a3 (i) rfl (by omega) (by omega) dX4_history_34 ?_
              rw [show x 3 (i) = nI p2 from (by have q := hR.2.2.2.1 i (by omega); rw [hse] at q; exact q)]
              refine n_if_ge (tgt := 73) hx hb dX4_history_35 (by decide) (by omega) ?_
              refine lv_iinc (v := nI (i + 1)) (lv' := [(4, .int (nI (i + 1))), (3, .int (ix - nI (cnt (hisP σ t) i))), (0, .ref (μ 0)), (1, .int (nI t)), (2, .int (ix))]) hx hb dX4_history_73 hl (k := 0) rfl (nI_add (i) 1) (by decide) rfl (fun ls hl => ?_)
              refine lv_goto (tgt := 19) hx hb dX4_history_76 (by decide) ?_
              have hhp : hisP σ t i = false := by unfold hisP; rw [hse]; rfl
              refine ih (i + 1) (by omega) (by omega) (fun k hk hk2 => by
                rcases Nat.lt_or_ge k i with z | z
                · exact hv k z hk2
                · rw [show k = i by omega] at hk2 ⊢
                  rw [hhp] at hk2; cases hk2) ls ?_
              rw [cnt_f hhp]
              exact (lv_sub hl [0, 1, 2, 3, 4] rfl)
      refine loop (sV σ + 1) 0 (by omega) (by omega) (fun k hk => absurd hk (Nat.not_lt_zero _)) ls ?_
      rw [show cnt (hisP σ t) 0 = 0 from rfl, ← sub00]
      exact (lv_sub hl [0, 1, 2, 3, 4] rfl)
    · skip
      refine lv_bipush (v := (-2)) hx hb dX4_history_11 (by decide +kernel) ?_
      exact r_iI hx hb hr LB.nil (Nat.le_refl _) (Nat.le_refl _) ⟨⟨rfl, Or.inl ⟨Or.inr (Int32.not_le.mp c_1185), rfl⟩⟩, _, _, hM, hR, hMK, MFr.rf⟩ dX4_history_13 hlocks
set_option maxHeartbeats 4000000 in
set_option maxRecDepth 100000 in
/-- report_n -/
theorem c_X4_report_n (l : Launch) (D : va_G) (g : Nat → ClassId) (b0 : Nat) (H : Heap) (μ : Nat → Nat) (σ : SG) (nC : Nat) (x : Nat → Nat → Int32) (hM : MC D g b0 μ (sV σ) (sB σ) nC x H) (hR : MR σ x) (hMK : MK σ nC x) (bi : Int32) (hN : BrN σ bi) : Met l yX4_report wsX4_report ({ frames := 1, cells := 0, slots := 0, locals := 22 } : Room) (kPc D g [.ref (μ 0), .int (bi)] H) (kI (fun r H1 => SpReport σ bi r σ ∧ MPost D g b0 μ H σ H1)) 0 0 (kF b0) := by
  refine Met.ofW (cc := cX4_report) (maxL := 6) (ret := (some .int)) (by decide) rfl ?_
  intro p e s m args below meth c s₁ B hml hv
  obtain ⟨rfl, hH, hK⟩ := hv
  have hx := B.exec
  have hb := B.bytes
  have hr := B.returns
  have hts := atoms_spec (ws := wsX4_report) B.pre
  have hown : s.vm.findClass RX4 = some m.cls := findClass_of_methodNamed B.named
  have hlocks := B.notSynchronized
  rw [hH]
  have hl := lv_entry ([.ref (μ 0), .int (bi)]) (n := 6) (Nat.le_of_ble_eq_true rfl)
  rw [lg_entry_eq]
  generalize (lg_sl ([.ref (μ 0), .int (bi)]) ++ List.replicate (6 - (lg_sl ([.ref (μ 0), .int (bi)])).length) Slot.unset).toArray = ls at hl ⊢
  have hl : lv_has ls 6 [(0, .ref (μ 0)), (1, .int (bi))] := hl
  have hWF := hR.1
  have hV4 : sV σ ≤ 400 := hWF.2.1
  have hB4 : sB σ ≤ 40 := hWF.2.2.2.1
  have hC4 : nC ≤ 64 := hMK.le
  refine lv_aload_n hx hb dX4_report_0 rfl (lv_at hl 0 rfl) ?_
  refine lv_iload_n hx hb dX4_report_1 rfl (lv_at hl 1 rfl) ?_
  refine k_callX (va_runV (As := [.int (bi)]) (rest := []) ⟨hx, hb, hml, hown, hts⟩ (c_X4_isBranch_n l D g b0 H μ (sV σ) (sB σ) nC x hM hV4 hB4 hC4 bi hN) (cwV 1 hts gX4_report_X4_isBranch rfl rfl rfl (by decide +kernel) ⟨Nat.le_of_ble_eq_true rfl, Nat.le_of_ble_eq_true rfl⟩) ⟨kPc_blind, k_recv hK hM.o rfl, fun U hU hW => kPc_at hK hU hW⟩ rfl rfl hl.1 rfl (lv_room (Nat.le_of_ble_eq_true rfl)) dX4_report_2 ⟨Nat.le_of_ble_eq_true rfl, Nat.le_of_ble_eq_true rfl⟩) ?_
  refine z_if_ne (tgt := 10) hx hb dX4_report_5 (by decide) (fun h => by cases h) (fun _ => ?_)
  refine lv_iconst (v := (-1)) hx hb dX4_report_8 (by decide +kernel) ?_
  exact r_iI hx hb hr LB.nil (Nat.le_refl _) (Nat.le_refl _) ⟨⟨rfl, Or.inl ⟨hN, rfl⟩⟩, _, _, hM, hR, hMK, MFr.rf⟩ dX4_report_9 hlocks
set_option maxHeartbeats 4000000 in
set_option maxRecDepth 100000 in
/-- report_y -/
theorem c_X4_report_y (l : Launch) (D : va_G) (g : Nat → ClassId) (b0 : Nat) (H : Heap) (μ : Nat → Nat) (σ : SG) (nC : Nat) (x : Nat → Nat → Int32) (hM : MC D g b0 μ (sV σ) (sB σ) nC x H) (hR : MR σ x) (hMK : MK σ nC x) (b : Nat) (hb4 : b < sB σ) : Met l yX4_report wsX4_report ({ frames := 1, cells := 0, slots := 0, locals := 22 } : Room) (kPc D g [.ref (μ 0), .int (nI b)] H) (kI (fun r H1 => SpReport σ (nI b) r σ ∧ MPost D g b0 μ H σ H1)) 0 0 (kF b0) := by
  refine Met.ofW (cc := cX4_report) (maxL := 6) (ret := (some .int)) (by decide) rfl ?_
  intro p e s m args below meth c s₁ B hml hv
  obtain ⟨rfl, hH, hK⟩ := hv
  have hx := B.exec
  have hb := B.bytes
  have hr := B.returns
  have hts := atoms_spec (ws := wsX4_report) B.pre
  have hown : s.vm.findClass RX4 = some m.cls := findClass_of_methodNamed B.named
  have hlocks := B.notSynchronized
  rw [hH]
  have hl := lv_entry ([.ref (μ 0), .int (nI b)]) (n := 6) (Nat.le_of_ble_eq_true rfl)
  rw [lg_entry_eq]
  generalize (lg_sl ([.ref (μ 0), .int (nI b)]) ++ List.replicate (6 - (lg_sl ([.ref (μ 0), .int (nI b)])).length) Slot.unset).toArray = ls at hl ⊢
  have hl : lv_has ls 6 [(0, .ref (μ 0)), (1, .int (nI b))] := hl
  have hWF := hR.1
  have hV4 : sV σ ≤ 400 := hWF.2.1
  have hB4 : sB σ ≤ 40 := hWF.2.2.2.1
  have hC4 : nC ≤ 64 := hMK.le
  have hhd := hWF.2.2.2.2.1 b hb4
  refine lv_aload_n hx hb dX4_report_0 rfl (lv_at hl 0 rfl) ?_
  refine lv_iload_n hx hb dX4_report_1 rfl (lv_at hl 1 rfl) ?_
  refine k_callX (va_runV (As := [.int (nI b)]) (rest := []) ⟨hx, hb, hml, hown, hts⟩ (c_X4_isBranch_y l D g b0 H μ (sV σ) (sB σ) nC x hM hV4 hB4 hC4 b hb4) (cwV 1 hts gX4_report_X4_isBranch rfl rfl rfl (by decide +kernel) ⟨Nat.le_of_ble_eq_true rfl, Nat.le_of_ble_eq_true rfl⟩) ⟨kPc_blind, k_recv hK hM.o rfl, fun U hU hW => kPc_at hK hU hW⟩ rfl rfl hl.1 rfl (lv_room (Nat.le_of_ble_eq_true rfl)) dX4_report_2 ⟨Nat.le_of_ble_eq_true rfl, Nat.le_of_ble_eq_true rfl⟩) ?_
  refine z_if_ne (tgt := 10) hx hb dX4_report_5 (by decide) (fun _ => ?_) (fun h => by cases h)
  refine lv_iconst (v := b2i true) hx hb dX4_report_10 (by decide +kernel) ?_
  refine lv_istore_n (lv' := [(2, .int (b2i true)), (0, .ref (μ 0)), (1, .int (nI b))]) hx hb dX4_report_11 rfl hl (by decide) rfl (fun ls hl => ?_)
  refine lv_iconst (v := nI 0) hx hb dX4_report_12 (by decide +kernel) ?_
  refine lv_istore_n (lv' := [(3, .int (nI 0)), (2, .int (b2i true)), (0, .ref (μ 0)), (1, .int (nI b))]) hx hb dX4_report_13 rfl hl (by decide) rfl (fun ls hl => ?_)
  have loop : ∀ (N i : Nat) (gd : Bool), 256 < i + N → i ≤ 256 → (gd = true ↔ ∀ k, k < i → crowd (bt (sW σ (sH σ b))) k = false) → ∀ ls, lv_has ls 6 [(3, .int (nI i)), (2, .int (b2i gd)), (0, .ref (μ 0)), (1, .int (nI b))] → W p l e (headSpec wsX4_report ({ frames := 1, cells := 0, slots := 0, locals := 22 } : Room)).room s m ([.ref (μ 0), .int (nI b)] : List Value).toArray below meth c H [] 0 0 (MQ below (kI (fun r H1 => SpReport σ (nI b) r σ ∧ MPost D g b0 μ H σ H1)) ([.ref (μ 0), .int (nI b)] : List Value).toArray s 0 0 (kF b0)) (F0 m 14 ls []) := by
    intro N
    induction N with
    | zero => intro i gd h0 h1; omega
    | succ N ih =>
      intro i gd hN hi hgd ls hl
      refine lv_iload_n hx hb dX4_report_14 rfl (lv_at hl 0 rfl) ?_
      refine lv_sipush (v := nI 256) hx hb dX4_report_15 (by decide +kernel) ?_
      refine n_icmp_ge (tgt := 101) hx hb dX4_report_18 (by decide) (by omega) (by omega) (fun c_1190 => ?_) (fun c_1190 => ?_)
      · skip
        refine lv_iload_n hx hb dX4_report_101 rfl (lv_at hl 1 rfl) ?_
        refine z_if_eq (tgt := 109) hx hb dX4_report_102 (by decide) (fun c_1191 => ?_) (fun c_1191 => ?_)
        · skip
          refine lv_iconst (v := b2i false) hx hb dX4_report_109 (by decide +kernel) ?_
          have hgd2 : gd = decide (cnt (crowd (bt (sW σ (sH σ b)))) 256 = 0) := by rw [Bool.eq_iff_iff, hgd, decide_eq_true_iff, cnt_0, show i = 256 by omega]
          exact r_iI hx hb hr LB.nil (Nat.le_refl _) (Nat.le_refl _) ⟨⟨rfl, Or.inr ⟨b, hb4, rfl, by rw [← hgd2, c_1191]⟩⟩, _, _, hM, hR, hMK, MFr.rf⟩ dX4_report_110 hlocks
        · skip
          refine lv_iconst (v := b2i true) hx hb dX4_report_105 (by decide +kernel) ?_
          refine lv_goto (tgt := 110) hx hb dX4_report_106 (by decide) ?_
          have hgd2 : gd = decide (cnt (crowd (bt (sW σ (sH σ b)))) 256 = 0) := by rw [Bool.eq_iff_iff, hgd, decide_eq_true_iff, cnt_0, show i = 256 by omega]
          exact r_iI hx hb hr LB.nil (Nat.le_refl _) (Nat.le_refl _) ⟨⟨rfl, Or.inr ⟨b, hb4, rfl, by rw [← hgd2, c_1191]⟩⟩, _, _, hM, hR, hMK, MFr.rf⟩ dX4_report_110 hlocks
      · skip
        have tail : ∀ (n : Nat), n ≤ 16 → (crowd (bt (sW σ (sH σ b))) i = true ↔ 2 ≤ n) → ∀ ls, lv_has ls 6 [(4, .int (nI n)), (3, .int (nI i)), (2, .int (b2i gd)), (0, .ref (μ 0)), (1, .int (nI b))] → W p l e (headSpec wsX4_report ({ frames := 1, cells := 0, slots := 0, locals := 22 } : Room)).room s m ([.ref (μ 0), .int (nI b)] : List Value).toArray below meth c H [] 0 0 (MQ below (kI (fun r H1 => SpReport σ (nI b) r σ ∧ MPost D g b0 μ H σ H1)) ([.ref (μ 0), .int (nI b)] : List Value).toArray s 0 0 (kF b0)) (F0 m 79 ls []) := by
          intro n hn16 hcr ls hl
          have seg_1192 : ∀ ls, lv_has ls 6 [(4, .int (nI n)), (3, .int (nI i)), (2, .int (b2i gd)), (0, .ref (μ 0)), (1, .int (nI b))] → W p l e (headSpec wsX4_report ({ frames := 1, cells := 0, slots := 0, locals := 22 } : Room)).room s m ([.ref (μ 0), .int (nI b)] : List Value).toArray below meth c H [] 0 0 (MQ below (kI (fun r H1 => SpReport σ (nI b) r σ ∧ MPost D g b0 μ H σ H1)) ([.ref (μ 0), .int (nI b)] : List Value).toArray s 0 0 (kF b0)) (F0 m 94 ls [.int (b2i ((gd && decide (n < 2))))]) → W p l e (headSpec wsX4_report ({ frames := 1, cells := 0, slots := 0, locals := 22 } : Room)).room s m ([.ref (μ 0), .int (nI b)] : List Value).toArray below meth c H [] 0 0 (MQ below (kI (fun r H1 => SpReport σ (nI b) r σ ∧ MPost D g b0 μ H σ H1)) ([.ref (μ 0), .int (nI b)] : List Value).toArray s 0 0 (kF b0)) (F0 m 79 ls []) := by
            intro ls hl hk
            refine lv_iload_n hx hb dX4_report_79 rfl (lv_at hl 2 rfl) ?_
            refine z_if_eq (tgt := 93) hx hb dX4_report_80 (by decide) (fun c_1193 => ?_) (fun c_1193 => ?_)
            · skip
              refine lv_iconst (v := b2i false) hx hb dX4_report_93 (by decide +kernel) ?_
              have e : (gd && decide (n < 2)) = false := by rw [c_1193]; rfl
              rw [e] at hk
              exact hk
            · skip
              refine lv_iload hx hb dX4_report_83 (lv_at hl 0 rfl) ?_
              refine lv_iconst (v := nI 2) hx hb dX4_report_85 (by decide +kernel) ?_
              refine n_icmp_ge (tgt := 93) hx hb dX4_report_86 (by decide) (by omega) (by omega) (fun c_1194 => ?_) (fun c_1194 => ?_)
              · skip
                refine lv_iconst (v := b2i false) hx hb dX4_report_93 (by decide +kernel) ?_
                have e : (gd && decide (n < 2)) = false := by rw [c_1193, show decide (n < 2) = false from decide_eq_false (by omega)]; rfl
                rw [e] at hk
                exact hk
              · skip
                refine lv_iconst (v := b2i true) hx hb dX4_report_89 (by decide +kernel) ?_
                refine lv_goto (tgt := 94) hx hb dX4_report_90 (by decide) ?_
                have e : (gd && decide (n < 2)) = true := by rw [c_1193, show decide (n < 2) = true from decide_eq_true (by omega)]; rfl
                rw [e] at hk
                exact hk
          refine seg_1192 ls hl ?_
          refine lv_istore_n (lv' := [(2, .int (b2i ((gd && decide (n < 2))))), (4, .int (nI n)), (3, .int (nI i)), (0, .ref (μ 0)), (1, .int (nI b))]) hx hb dX4_report_94 rfl hl (by decide) rfl (fun ls hl => ?_)
          refine lv_iinc (v := nI (i + 1)) (lv' := [(3, .int (nI (i + 1))), (2, .int (b2i ((gd && decide (n < 2))))), (4, .int (nI n)), (0, .ref (μ 0)), (1, .int (nI b))]) hx hb dX4_report_95 hl (k := 2) rfl (nI_add (i) 1) (by decide) rfl (fun ls hl => ?_)
          refine lv_goto (tgt := 14) hx hb dX4_report_98 (by decide) ?_
          refine ih (i + 1) _ (by omega) (by omega) ?_ ls (lv_sub hl [0, 1, 3, 4] rfl)
          rw [Bool.and_eq_true, hgd, decide_eq_true_iff]
          constructor
          · rintro ⟨q1, q2⟩ k hk
            rcases Nat.lt_or_ge k i with z | z
            · exact q1 k z
            · rw [show k = i by omega]; exact ts_nt (fun y => by have := hcr.mp y; omega)
          · intro q
            refine ⟨fun k hk => q k (by omega), ?_⟩
            have q3 := q i (by omega)
            rcases Nat.lt_or_ge n 2 with z | z
            · exact z
            · rw [hcr.mpr z] at q3; cases q3
        by_cases h12 : 12 ≤ i % 16
        · skip
          refine lv_iconst (v := nI 0) hx hb dX4_report_21 (by decide +kernel) ?_
          refine lv_istore (lv' := [(4, .int (nI 0)), (3, .int (nI i)), (2, .int (b2i gd)), (0, .ref (μ 0)), (1, .int (nI b))]) hx hb dX4_report_22 hl (by decide) rfl (fun ls hl => ?_)
          refine lv_iconst (v := nI 0) hx hb dX4_report_24 (by decide +kernel) ?_
          refine lv_istore (lv' := [(5, .int (nI 0)), (4, .int (nI 0)), (3, .int (nI i)), (2, .int (b2i gd)), (0, .ref (μ 0)), (1, .int (nI b))]) hx hb dX4_report_25 hl (by decide) rfl (fun ls hl => ?_)
          have inner : ∀ (K o : Nat), 16 < o + K → o ≤ 16 → ∀ ls, lv_has ls 6 [(5, .int (nI o)), (4, .int (nI (cnt (fun o => bt (sW σ (sH σ b)) (16 * i + o)) o))), (3, .int (nI i)), (2, .int (b2i gd)), (0, .ref (μ 0)), (1, .int (nI b))] → W p l e (headSpec wsX4_report ({ frames := 1, cells := 0, slots := 0, locals := 22 } : Room)).room s m ([.ref (μ 0), .int (nI b)] : List Value).toArray below meth c H [] 0 0 (MQ below (kI (fun r H1 => SpReport σ (nI b) r σ ∧ MPost D g b0 μ H σ H1)) ([.ref (μ 0), .int (nI b)] : List Value).toArray s 0 0 (kF b0)) (F0 m 27 ls []) := by
            intro K
            induction K with
            | zero => intro o h0 h1; omega
            | succ K ihK =>
              intro o hK2 ho ls hl
              have hcl := cnt_le (fun o => bt (sW σ (sH σ b)) (16 * i + o)) o
              refine lv_iload hx hb dX4_report_27 (lv_at hl 0 rfl) ?_
              refine lv_bipush (v := nI 16) hx hb dX4_report_29 (by decide +kernel) ?_
              refine n_icmp_ge (tgt := 79) hx hb dX4_report_31 (by decide) (by omega) (by omega) (fun c_1195 => ?_) (fun c_1195 => ?_)
              · skip
                obtain rfl : o = 16 := by omega
                exact tail (cnt (fun o => bt (sW σ (sH σ b)) (16 * i + o)) 16) (by omega) ⟨fun q => crowd_two q, fun q => crowd_yes rfl h12 q⟩ ls (lv_sub hl [1, 2, 3, 4, 5] rfl)
              · skip
                refine lv_iload_n hx hb dX4_report_34 rfl (lv_at hl 2 rfl) ?_
                refine lv_bipush (v := nI 15) hx hb dX4_report_35 (by decide +kernel) ?_
                refine lv_iand hx hb dX4_report_37 ?_
                refine lv_topi (nm_r (show (nI i) &&& (nI 15) = nI (i % 16) from pk_andN (by omega) 4 (by decide +kernel)) ?_)
                refine lv_bipush (v := nI 11) hx hb dX4_report_38 (by decide +kernel) ?_
                refine lv_icmp_le (tgt := 79) hx hb dX4_report_40 (by decide) (fun q => absurd ((nI_leI (by omega) (by omega)).mp q) (by omega)) (fun _ => ?_)
                refine lv_iload hx hb dX4_report_43 (lv_at hl 1 rfl) ?_
                refine lv_aload_n hx hb dX4_report_45 rfl (lv_at hl 4 rfl) ?_
                refine lv_aload_n hx hb dX4_report_46 rfl (lv_at hl 4 rfl) ?_
                refine k_get (ci := 4) (C := RX4) (T := TX4) (N := 13) (v := .ref (μ 4)) hx hb hts (by decide +kernel) hown hK hM.o rfl 4 (by decide) rfl (hts (.fieldLink RX4 21 RX4 "heads" "[I") (by decide +kernel)) rfl dX4_report_47 ?_
                refine lv_iload_n hx hb dX4_report_50 rfl (lv_at hl 5 rfl) ?_
                refine k_iald hx hb hK hM.a4 (b) rfl (by omega) (by omega) dX4_report_51 ?_
                rw [show x 4 (b) = nI (sH σ b) from (hR.2.2.2.2 b hb4)]
                refine lv_bipush (v := nI 16) hx hb dX4_report_52 (by decide +kernel) ?_
                refine lv_iload_n hx hb dX4_report_54 rfl (lv_at hl 2 rfl) ?_
                refine lv_imul hx hb dX4_report_55 ?_
                refine lv_topi (nm_r (show (nI 16) * (nI i) = nI (16 * (i)) from pk_mul _ _) ?_)
                refine lv_iload hx hb dX4_report_56 (lv_at hl 0 rfl) ?_
                refine lv_iadd hx hb dX4_report_58 ?_
                refine lv_topi (nm_r (show (nI (16 * (i))) + (nI o) = nI (16 * (i) + o) from nI_add _ _) ?_)
                refine k_callX (va_runV (As := [.int (nI (sH σ b)), .int (nI (16 * (i) + o))]) (rest := [.int (nI (cnt (fun o => bt (sW σ (sH σ b)) (16 * i + o)) o))]) ⟨hx, hb, hml, hown, hts⟩ (c_X4_has l D g b0 H μ (sV σ) (sB σ) (nC) x hM (by omega) (by omega) (by omega) (some (sH σ b)) (16 * i + o) (by omega) (bt (sW σ (sH σ b)) (16 * i + o)) (hR.has (o := some (sH σ b)) (fun p hp => by cases hp; exact hhd) (by omega))) (cwV 2 hts gX4_report_X4_has rfl rfl rfl (by decide +kernel) ⟨Nat.le_of_ble_eq_true rfl, Nat.le_of_ble_eq_true rfl⟩) ⟨kPc_blind, k_recv hK hM.o rfl, fun U hU hW => kPc_at hK hU hW⟩ rfl rfl hl.1 rfl (lv_room (Nat.le_of_ble_eq_true rfl)) dX4_report_59 ⟨Nat.le_of_ble_eq_true rfl, Nat.le_of_ble_eq_true rfl⟩) ?_
                refine z_if_eq (tgt := 69) hx hb dX4_report_62 (by decide) (fun c_1196 => ?_) (fun c_1196 => ?_)
                · skip
                  refine lv_iconst (v := nI 0) hx hb dX4_report_69 (by decide +kernel) ?_
                  refine lv_iadd hx hb dX4_report_70 ?_
                  refine lv_topi (nm_r (show (nI (cnt (fun o => bt (sW σ (sH σ b)) (16 * i + o)) o)) + (nI 0) = nI (cnt (fun o => bt (sW σ (sH σ b)) (16 * i + o)) o + 0) from nI_add _ _) ?_)
                  refine lv_istore (lv' := [(4, .int (nI (cnt (fun o => bt (sW σ (sH σ b)) (16 * i + o)) o + 0))), (5, .int (nI o)), (3, .int (nI i)), (2, .int (b2i gd)), (0, .ref (μ 0)), (1, .int (nI b))]) hx hb dX4_report_71 hl (by decide) rfl (fun ls hl => ?_)
                  refine lv_iinc (v := nI (o + 1)) (lv' := [(5, .int (nI (o + 1))), (4, .int (nI (cnt (fun o => bt (sW σ (sH σ b)) (16 * i + o)) o + 0))), (3, .int (nI i)), (2, .int (b2i gd)), (0, .ref (μ 0)), (1, .int (nI b))]) hx hb dX4_report_73 hl (k := 1) rfl (nI_add (o) 1) (by decide) rfl (fun ls hl => ?_)
                  refine lv_goto (tgt := 27) hx hb dX4_report_76 (by decide) ?_
                  refine ihK (o + 1) (by omega) (by omega) ls ?_
                  rw [cnt_f (p := (fun o => bt (sW σ (sH σ b)) (16 * i + o))) c_1196]
                  exact (lv_sub hl [0, 1, 2, 3, 4, 5] rfl)
                · skip
                  refine lv_iconst (v := nI 1) hx hb dX4_report_65 (by decide +kernel) ?_
                  refine lv_goto (tgt := 70) hx hb dX4_report_66 (by decide) ?_
                  refine lv_iadd hx hb dX4_report_70 ?_
                  refine lv_topi (nm_r (show (nI (cnt (fun o => bt (sW σ (sH σ b)) (16 * i + o)) o)) + (nI 1) = nI (cnt (fun o => bt (sW σ (sH σ b)) (16 * i + o)) o + 1) from nI_add _ _) ?_)
                  refine lv_istore (lv' := [(4, .int (nI (cnt (fun o => bt (sW σ (sH σ b)) (16 * i + o)) o + 1))), (5, .int (nI o)), (3, .int (nI i)), (2, .int (b2i gd)), (0, .ref (μ 0)), (1, .int (nI b))]) hx hb dX4_report_71 hl (by decide) rfl (fun ls hl => ?_)
                  refine lv_iinc (v := nI (o + 1)) (lv' := [(5, .int (nI (o + 1))), (4, .int (nI (cnt (fun o => bt (sW σ (sH σ b)) (16 * i + o)) o + 1))), (3, .int (nI i)), (2, .int (b2i gd)), (0, .ref (μ 0)), (1, .int (nI b))]) hx hb dX4_report_73 hl (k := 1) rfl (nI_add (o) 1) (by decide) rfl (fun ls hl => ?_)
                  refine lv_goto (tgt := 27) hx hb dX4_report_76 (by decide) ?_
                  refine ihK (o + 1) (by omega) (by omega) ls ?_
                  rw [cnt_t (p := (fun o => bt (sW σ (sH σ b)) (16 * i + o))) c_1196]
                  exact (lv_sub hl [0, 1, 2, 3, 4, 5] rfl)
          exact inner 17 0 (by omega) (by omega) ls (lv_sub hl [0, 1, 2, 3, 4, 5] rfl)
        · skip
          refine lv_iconst (v := nI 0) hx hb dX4_report_21 (by decide +kernel) ?_
          refine lv_istore (lv' := [(4, .int (nI 0)), (3, .int (nI i)), (2, .int (b2i gd)), (0, .ref (μ 0)), (1, .int (nI b))]) hx hb dX4_report_22 hl (by decide) rfl (fun ls hl => ?_)
          refine lv_iconst (v := nI 0) hx hb dX4_report_24 (by decide +kernel) ?_
          refine lv_istore (lv' := [(5, .int (nI 0)), (4, .int (nI 0)), (3, .int (nI i)), (2, .int (b2i gd)), (0, .ref (μ 0)), (1, .int (nI b))]) hx hb dX4_report_25 hl (by decide) rfl (fun ls hl => ?_)
          refine lv_iload hx hb dX4_report_27 (lv_at hl 0 rfl) ?_
          refine lv_bipush (v := nI 16) hx hb dX4_report_29 (by decide +kernel) ?_
          refine lv_icmp_ge (tgt := 79) hx hb dX4_report_31 (by decide) (fun q => absurd q (nI_nle0 16)) (fun _ => ?_)
          refine lv_iload_n hx hb dX4_report_34 rfl (lv_at hl 2 rfl) ?_
          refine lv_bipush (v := nI 15) hx hb dX4_report_35 (by decide +kernel) ?_
          refine lv_iand hx hb dX4_report_37 ?_
          refine lv_topi (nm_r (show (nI i) &&& (nI 15) = nI (i % 16) from pk_andN (by omega) 4 (by decide +kernel)) ?_)
          refine lv_bipush (v := nI 11) hx hb dX4_report_38 (by decide +kernel) ?_
          refine lv_icmp_le (tgt := 79) hx hb dX4_report_40 (by decide) (fun _ => ?_) (fun q => absurd ((nI_leI (by omega) (by omega)).mpr (by omega)) q)
          exact tail 0 (by omega) ⟨fun q => (by rw [crowd_no1 (by omega)] at q; cases q), fun q => (by omega)⟩ ls (lv_sub hl [1, 2, 3, 4, 5] rfl)
  exact loop 257 0 true (by omega) (by omega) ⟨fun _ k h => absurd h (Nat.not_lt_zero _), fun _ => rfl⟩ ls (lv_sub hl [0, 1, 2, 3] rfl)
theorem c_X4_report (l : Launch) (D : va_G) (g : Nat → ClassId) (b0 : Nat) (H : Heap) (μ : Nat → Nat) (σ : SG) (nC : Nat) (x : Nat → Nat → Int32) (hM : MC D g b0 μ (sV σ) (sB σ) nC x H) (hR : MR σ x) (hMK : MK σ nC x) (bi : Int32) : Met l yX4_report wsX4_report ({ frames := 1, cells := 0, slots := 0, locals := 22 } : Room) (kPc D g [.ref (μ 0), .int bi] H) (kI (fun r H1 => SpReport σ bi r σ ∧ MPost D g b0 μ H σ H1)) 0 0 (kF b0) := by
  rcases br_dec σ bi with h | ⟨b, hb4, rfl⟩
  · exact c_X4_report_n l D g b0 H μ σ nC x hM hR hMK bi h
  · exact c_X4_report_y l D g b0 H μ σ nC x hM hR hMK b hb4

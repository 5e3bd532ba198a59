/-! 06: leaves: triples, bits, words (laid by wip/gen/leaf.py) -/
set_option maxHeartbeats 4000000 in
set_option maxRecDepth 100000 in
/-- isTriple(t) -/
theorem c_X3_isTriple (l : Launch) (D : va_G) (g : Nat → ClassId) (H : Heap) (t : Int32) : Met l yX3_isTriple wsX3_isTriple ({ frames := 0, cells := 0, slots := 0, locals := 0 } : Room) (kPc D g [.int (t)] H) (kX (.int (b2i (isTb t))) H) 0 0 kN := by
  refine Met.ofW (cc := cX3_isTriple) (maxL := 1) (ret := (some .boolean)) (by decide) rfl ?_
  intro p e s m args below meth c s₁ B hml hv
  obtain ⟨rfl, hH, hK⟩ := hv
  have hx := B.exec
  have hb := B.bytes
  have hr := B.returns
  have hts := atoms_spec (ws := wsX3_isTriple) B.pre
  have hown : s.vm.findClass RX3 = some m.cls := findClass_of_methodNamed B.named
  have hlocks := B.notSynchronized
  rw [hH]
  have hl := lv_entry ([.int (t)]) (n := 1) (Nat.le_of_ble_eq_true rfl)
  rw [lg_entry_eq]
  generalize (lg_sl ([.int (t)]) ++ List.replicate (1 - (lg_sl ([.int (t)])).length) Slot.unset).toArray = ls at hl ⊢
  have hl : lv_has ls 1 [(0, .int (t))] := hl
  refine lv_iload_n hx hb dX3_isTriple_0 rfl (lv_at hl 0 rfl) ?_
  refine lv_if_lt (tgt := 15) hx hb dX3_isTriple_1 (by decide) (fun c_1 => ?_) (fun c_1 => ?_)
  · skip
    refine lv_iconst (v := b2i false) hx hb dX3_isTriple_15 (by decide +kernel) ?_
    exact r_zX hx hb hr (by rw [isTb_lt c_1]) dX3_isTriple_16 hlocks
  · skip
    refine lv_iload_n hx hb dX3_isTriple_4 rfl (lv_at hl 0 rfl) ?_
    refine lv_sipush (v := nI 4096) hx hb dX3_isTriple_5 (by decide +kernel) ?_
    refine lv_icmp_ge (tgt := 15) hx hb dX3_isTriple_8 (by decide) (fun c_2 => ?_) (fun c_2 => ?_)
    · skip
      refine lv_iconst (v := b2i false) hx hb dX3_isTriple_15 (by decide +kernel) ?_
      exact r_zX hx hb hr (by rw [isTb_ge c_2]) dX3_isTriple_16 hlocks
    · skip
      refine lv_iconst (v := b2i true) hx hb dX3_isTriple_11 (by decide +kernel) ?_
      refine lv_goto (tgt := 16) hx hb dX3_isTriple_12 (by decide) ?_
      exact r_zX hx hb hr (by rw [isTb_in c_1 c_2]) dX3_isTriple_16 hlocks
set_option maxHeartbeats 4000000 in
set_option maxRecDepth 100000 in
/-- isTriple(t) -/
theorem c_X4_isTriple (l : Launch) (D : va_G) (g : Nat → ClassId) (H : Heap) (t : Int32) : Met l yX4_isTriple wsX4_isTriple ({ frames := 0, cells := 0, slots := 0, locals := 0 } : Room) (kPc D g [.int (t)] H) (kX (.int (b2i (isTb t))) H) 0 0 kN := by
  refine Met.ofW (cc := cX4_isTriple) (maxL := 1) (ret := (some .boolean)) (by decide) rfl ?_
  intro p e s m args below meth c s₁ B hml hv
  obtain ⟨rfl, hH, hK⟩ := hv
  have hx := B.exec
  have hb := B.bytes
  have hr := B.returns
  have hts := atoms_spec (ws := wsX4_isTriple) B.pre
  have hown : s.vm.findClass RX4 = some m.cls := findClass_of_methodNamed B.named
  have hlocks := B.notSynchronized
  rw [hH]
  have hl := lv_entry ([.int (t)]) (n := 1) (Nat.le_of_ble_eq_true rfl)
  rw [lg_entry_eq]
  generalize (lg_sl ([.int (t)]) ++ List.replicate (1 - (lg_sl ([.int (t)])).length) Slot.unset).toArray = ls at hl ⊢
  have hl : lv_has ls 1 [(0, .int (t))] := hl
  refine lv_iload_n hx hb dX4_isTriple_0 rfl (lv_at hl 0 rfl) ?_
  refine lv_if_lt (tgt := 15) hx hb dX4_isTriple_1 (by decide) (fun c_3 => ?_) (fun c_3 => ?_)
  · skip
    refine lv_iconst (v := b2i false) hx hb dX4_isTriple_15 (by decide +kernel) ?_
    exact r_zX hx hb hr (by rw [isTb_lt c_3]) dX4_isTriple_16 hlocks
  · skip
    refine lv_iload_n hx hb dX4_isTriple_4 rfl (lv_at hl 0 rfl) ?_
    refine lv_sipush (v := nI 4096) hx hb dX4_isTriple_5 (by decide +kernel) ?_
    refine lv_icmp_ge (tgt := 15) hx hb dX4_isTriple_8 (by decide) (fun c_4 => ?_) (fun c_4 => ?_)
    · skip
      refine lv_iconst (v := b2i false) hx hb dX4_isTriple_15 (by decide +kernel) ?_
      exact r_zX hx hb hr (by rw [isTb_ge c_4]) dX4_isTriple_16 hlocks
    · skip
      refine lv_iconst (v := b2i true) hx hb dX4_isTriple_11 (by decide +kernel) ?_
      refine lv_goto (tgt := 16) hx hb dX4_isTriple_12 (by decide) ?_
      exact r_zX hx hb hr (by rw [isTb_in c_3 c_4]) dX4_isTriple_16 hlocks
set_option maxHeartbeats 4000000 in
set_option maxRecDepth 100000 in
/-- isBlank(t) -/
theorem c_X3_isBlank (l : Launch) (D : va_G) (g : Nat → ClassId) (H : Heap) (t : Int32) : Met l yX3_isBlank wsX3_isBlank ({ frames := 0, cells := 0, slots := 0, locals := 0 } : Room) (kPc D g [.int (t)] H) (kX (.int (b2i (isBb t))) H) 0 0 kN := by
  refine Met.ofW (cc := cX3_isBlank) (maxL := 1) (ret := (some .boolean)) (by decide) rfl ?_
  intro p e s m args below meth c s₁ B hml hv
  obtain ⟨rfl, hH, hK⟩ := hv
  have hx := B.exec
  have hb := B.bytes
  have hr := B.returns
  have hts := atoms_spec (ws := wsX3_isBlank) B.pre
  have hown : s.vm.findClass RX3 = some m.cls := findClass_of_methodNamed B.named
  have hlocks := B.notSynchronized
  rw [hH]
  have hl := lv_entry ([.int (t)]) (n := 1) (Nat.le_of_ble_eq_true rfl)
  rw [lg_entry_eq]
  generalize (lg_sl ([.int (t)]) ++ List.replicate (1 - (lg_sl ([.int (t)])).length) Slot.unset).toArray = ls at hl ⊢
  have hl : lv_has ls 1 [(0, .int (t))] := hl
  refine lv_iload_n hx hb dX3_isBlank_0 rfl (lv_at hl 0 rfl) ?_
  refine lv_if_lt (tgt := 14) hx hb dX3_isBlank_1 (by decide) (fun c_5 => ?_) (fun c_5 => ?_)
  · skip
    refine lv_iconst (v := b2i false) hx hb dX3_isBlank_14 (by decide +kernel) ?_
    exact r_zX hx hb hr (by rw [isBb_lt c_5]) dX3_isBlank_15 hlocks
  · skip
    refine lv_iload_n hx hb dX3_isBlank_4 rfl (lv_at hl 0 rfl) ?_
    refine lv_bipush (v := nI 8) hx hb dX3_isBlank_5 (by decide +kernel) ?_
    refine lv_icmp_ge (tgt := 14) hx hb dX3_isBlank_7 (by decide) (fun c_6 => ?_) (fun c_6 => ?_)
    · skip
      refine lv_iconst (v := b2i false) hx hb dX3_isBlank_14 (by decide +kernel) ?_
      exact r_zX hx hb hr (by rw [isBb_ge c_6]) dX3_isBlank_15 hlocks
    · skip
      refine lv_iconst (v := b2i true) hx hb dX3_isBlank_10 (by decide +kernel) ?_
      refine lv_goto (tgt := 15) hx hb dX3_isBlank_11 (by decide) ?_
      exact r_zX hx hb hr (by rw [isBb_in c_5 c_6]) dX3_isBlank_15 hlocks
set_option maxHeartbeats 4000000 in
set_option maxRecDepth 100000 in
/-- isBlank(t) -/
theorem c_X4_isBlank (l : Launch) (D : va_G) (g : Nat → ClassId) (H : Heap) (t : Int32) : Met l yX4_isBlank wsX4_isBlank ({ frames := 0, cells := 0, slots := 0, locals := 0 } : Room) (kPc D g [.int (t)] H) (kX (.int (b2i (isBb t))) H) 0 0 kN := by
  refine Met.ofW (cc := cX4_isBlank) (maxL := 1) (ret := (some .boolean)) (by decide) rfl ?_
  intro p e s m args below meth c s₁ B hml hv
  obtain ⟨rfl, hH, hK⟩ := hv
  have hx := B.exec
  have hb := B.bytes
  have hr := B.returns
  have hts := atoms_spec (ws := wsX4_isBlank) B.pre
  have hown : s.vm.findClass RX4 = some m.cls := findClass_of_methodNamed B.named
  have hlocks := B.notSynchronized
  rw [hH]
  have hl := lv_entry ([.int (t)]) (n := 1) (Nat.le_of_ble_eq_true rfl)
  rw [lg_entry_eq]
  generalize (lg_sl ([.int (t)]) ++ List.replicate (1 - (lg_sl ([.int (t)])).length) Slot.unset).toArray = ls at hl ⊢
  have hl : lv_has ls 1 [(0, .int (t))] := hl
  refine lv_iload_n hx hb dX4_isBlank_0 rfl (lv_at hl 0 rfl) ?_
  refine lv_if_lt (tgt := 14) hx hb dX4_isBlank_1 (by decide) (fun c_7 => ?_) (fun c_7 => ?_)
  · skip
    refine lv_iconst (v := b2i false) hx hb dX4_isBlank_14 (by decide +kernel) ?_
    exact r_zX hx hb hr (by rw [isBb_lt c_7]) dX4_isBlank_15 hlocks
  · skip
    refine lv_iload_n hx hb dX4_isBlank_4 rfl (lv_at hl 0 rfl) ?_
    refine lv_bipush (v := nI 8) hx hb dX4_isBlank_5 (by decide +kernel) ?_
    refine lv_icmp_ge (tgt := 14) hx hb dX4_isBlank_7 (by decide) (fun c_8 => ?_) (fun c_8 => ?_)
    · skip
      refine lv_iconst (v := b2i false) hx hb dX4_isBlank_14 (by decide +kernel) ?_
      exact r_zX hx hb hr (by rw [isBb_ge c_8]) dX4_isBlank_15 hlocks
    · skip
      refine lv_iconst (v := b2i true) hx hb dX4_isBlank_10 (by decide +kernel) ?_
      refine lv_goto (tgt := 15) hx hb dX4_isBlank_11 (by decide) ?_
      exact r_zX hx hb hr (by rw [isBb_in c_7 c_8]) dX4_isBlank_15 hlocks
theorem c_X3_isTriple_k (l : Launch) (D : va_G) (g : Nat → ClassId) (H : Heap) (t : Nat) (ht : t < 4096) : Met l yX3_isTriple wsX3_isTriple ({ frames := 0, cells := 0, slots := 0, locals := 0 } : Room) (kPc D g [.int (nI t)] H) (kX (.int (b2i true)) H) 0 0 kN := by
  have h := c_X3_isTriple l D g H (nI t)
  rw [isTb_nI ht] at h
  exact h
theorem c_X4_isTriple_k (l : Launch) (D : va_G) (g : Nat → ClassId) (H : Heap) (t : Nat) (ht : t < 4096) : Met l yX4_isTriple wsX4_isTriple ({ frames := 0, cells := 0, slots := 0, locals := 0 } : Room) (kPc D g [.int (nI t)] H) (kX (.int (b2i true)) H) 0 0 kN := by
  have h := c_X4_isTriple l D g H (nI t)
  rw [isTb_nI ht] at h
  exact h
set_option maxHeartbeats 4000000 in
set_option maxRecDepth 100000 in
/-- turnedRound -/
theorem c_X3_turnedRound (l : Launch) (D : va_G) (g : Nat → ClassId) (H : Heap) (x : Int32) : Met l yX3_turnedRound wsX3_turnedRound ({ frames := 0, cells := 0, slots := 0, locals := 0 } : Room) (kPc D g [.int (x)] H) (kX (.int ((-1) - x)) H) 0 0 kN := by
  refine Met.ofW (cc := cX3_turnedRound) (maxL := 1) (ret := (some .int)) (by decide) rfl ?_
  intro p e s m args below meth c s₁ B hml hv
  obtain ⟨rfl, hH, hK⟩ := hv
  have hx := B.exec
  have hb := B.bytes
  have hr := B.returns
  have hts := atoms_spec (ws := wsX3_turnedRound) B.pre
  have hown : s.vm.findClass RX3 = some m.cls := findClass_of_methodNamed B.named
  have hlocks := B.notSynchronized
  rw [hH]
  have hl := lv_entry ([.int (x)]) (n := 1) (Nat.le_of_ble_eq_true rfl)
  rw [lg_entry_eq]
  generalize (lg_sl ([.int (x)]) ++ List.replicate (1 - (lg_sl ([.int (x)])).length) Slot.unset).toArray = ls at hl ⊢
  have hl : lv_has ls 1 [(0, .int (x))] := hl
  refine lv_iconst (v := (-1)) hx hb dX3_turnedRound_0 (by decide +kernel) ?_
  refine lv_iload_n hx hb dX3_turnedRound_1 rfl (lv_at hl 0 rfl) ?_
  refine lv_isub hx hb dX3_turnedRound_2 ?_
  exact r_iX hx hb hr (rfl) dX3_turnedRound_3 hlocks
set_option maxHeartbeats 4000000 in
set_option maxRecDepth 100000 in
theorem c_X1_subject (l : Launch) (D : va_G) (g : Nat → ClassId) (H : Heap) (t : Nat) (ht : t < 4096) : Met l yX1_subject wsX1_subject ({ frames := 0, cells := 0, slots := 0, locals := 0 } : Room) (kPc D g [.int (nI t)] H) (kX (.int (nI (t / 256))) H) 0 0 kN := by
  refine Met.ofW (cc := cX1_subject) (maxL := 1) (ret := (some .int)) (by decide) rfl ?_
  intro p e s m args below meth c s₁ B hml hv
  obtain ⟨rfl, hH, hK⟩ := hv
  have hx := B.exec
  have hb := B.bytes
  have hr := B.returns
  have hts := atoms_spec (ws := wsX1_subject) B.pre
  have hown : s.vm.findClass RX1 = some m.cls := findClass_of_methodNamed B.named
  have hlocks := B.notSynchronized
  rw [hH]
  have hl := lv_entry ([.int (nI t)]) (n := 1) (Nat.le_of_ble_eq_true rfl)
  rw [lg_entry_eq]
  generalize (lg_sl ([.int (nI t)]) ++ List.replicate (1 - (lg_sl ([.int (nI t)])).length) Slot.unset).toArray = ls at hl ⊢
  have hl : lv_has ls 1 [(0, .int (nI t))] := hl
  refine lv_iload_n hx hb dX1_subject_0 rfl (lv_at hl 0 rfl) ?_
  refine lv_bipush (v := nI 8) hx hb dX1_subject_1 (by decide +kernel) ?_
  refine lv_ishr hx hb dX1_subject_3 ?_
  refine lv_topi (nm_r (show (nI t) >>> ((nI 8) &&& 31) = nI (t / 256) from pk_shrN (by omega) _ 8 (by decide +kernel)) ?_)
  exact r_iX hx hb hr (rfl) dX1_subject_4 hlocks
set_option maxHeartbeats 4000000 in
set_option maxRecDepth 100000 in
theorem c_X1_property (l : Launch) (D : va_G) (g : Nat → ClassId) (H : Heap) (t : Nat) (ht : t < 4096) : Met l yX1_property wsX1_property ({ frames := 0, cells := 0, slots := 0, locals := 0 } : Room) (kPc D g [.int (nI t)] H) (kX (.int (nI (t / 16 % 16))) H) 0 0 kN := by
  refine Met.ofW (cc := cX1_property) (maxL := 1) (ret := (some .int)) (by decide) rfl ?_
  intro p e s m args below meth c s₁ B hml hv
  obtain ⟨rfl, hH, hK⟩ := hv
  have hx := B.exec
  have hb := B.bytes
  have hr := B.returns
  have hts := atoms_spec (ws := wsX1_property) B.pre
  have hown : s.vm.findClass RX1 = some m.cls := findClass_of_methodNamed B.named
  have hlocks := B.notSynchronized
  rw [hH]
  have hl := lv_entry ([.int (nI t)]) (n := 1) (Nat.le_of_ble_eq_true rfl)
  rw [lg_entry_eq]
  generalize (lg_sl ([.int (nI t)]) ++ List.replicate (1 - (lg_sl ([.int (nI t)])).length) Slot.unset).toArray = ls at hl ⊢
  have hl : lv_has ls 1 [(0, .int (nI t))] := hl
  refine lv_iload_n hx hb dX1_property_0 rfl (lv_at hl 0 rfl) ?_
  refine lv_iconst (v := nI 4) hx hb dX1_property_1 (by decide +kernel) ?_
  refine lv_ishr hx hb dX1_property_2 ?_
  refine lv_topi (nm_r (show (nI t) >>> ((nI 4) &&& 31) = nI (t / 16) from pk_shrN (by omega) _ 4 (by decide +kernel)) ?_)
  refine lv_bipush (v := nI 15) hx hb dX1_property_3 (by decide +kernel) ?_
  refine lv_iand hx hb dX1_property_5 ?_
  refine lv_topi (nm_r (show (nI (t / 16)) &&& (nI 15) = nI ((t / 16) % 16) from pk_andN (by omega) 4 (by decide +kernel)) ?_)
  exact r_iX hx hb hr (rfl) dX1_property_6 hlocks
set_option maxHeartbeats 4000000 in
set_option maxRecDepth 100000 in
theorem c_X1_object (l : Launch) (D : va_G) (g : Nat → ClassId) (H : Heap) (t : Nat) (ht : t < 4096) : Met l yX1_object wsX1_object ({ frames := 0, cells := 0, slots := 0, locals := 0 } : Room) (kPc D g [.int (nI t)] H) (kX (.int (nI (t % 16))) H) 0 0 kN := by
  refine Met.ofW (cc := cX1_object) (maxL := 1) (ret := (some .int)) (by decide) rfl ?_
  intro p e s m args below meth c s₁ B hml hv
  obtain ⟨rfl, hH, hK⟩ := hv
  have hx := B.exec
  have hb := B.bytes
  have hr := B.returns
  have hts := atoms_spec (ws := wsX1_object) B.pre
  have hown : s.vm.findClass RX1 = some m.cls := findClass_of_methodNamed B.named
  have hlocks := B.notSynchronized
  rw [hH]
  have hl := lv_entry ([.int (nI t)]) (n := 1) (Nat.le_of_ble_eq_true rfl)
  rw [lg_entry_eq]
  generalize (lg_sl ([.int (nI t)]) ++ List.replicate (1 - (lg_sl ([.int (nI t)])).length) Slot.unset).toArray = ls at hl ⊢
  have hl : lv_has ls 1 [(0, .int (nI t))] := hl
  refine lv_iload_n hx hb dX1_object_0 rfl (lv_at hl 0 rfl) ?_
  refine lv_bipush (v := nI 15) hx hb dX1_object_1 (by decide +kernel) ?_
  refine lv_iand hx hb dX1_object_3 ?_
  refine lv_topi (nm_r (show (nI t) &&& (nI 15) = nI (t % 16) from pk_andN (by omega) 4 (by decide +kernel)) ?_)
  exact r_iX hx hb hr (rfl) dX1_object_4 hlocks
set_option maxHeartbeats 4000000 in
set_option maxRecDepth 100000 in
/-- has(t) -/
theorem c_X1_has (l : Launch) (D : va_G) (g : Nat → ClassId) (H : Heap) (a w : Nat) (f : Nat → Int64) (ho : HA D H a (eO 1 [.ref w])) (hw : HA D H w (eL (g 2) 64 f)) (t : Nat) (ht : t < 4096) : Met l yX1_has wsX1_has ({ frames := 1, cells := 0, slots := 0, locals := 20 } : Room) (kPc D g [.ref a, .int (nI t)] H) (kX (.int (b2i (bt f t))) H) 0 0 kN := by
  refine Met.ofW (cc := cX1_has) (maxL := 2) (ret := (some .boolean)) (by decide) rfl ?_
  intro p e s m args below meth c s₁ B hml hv
  obtain ⟨rfl, hH, hK⟩ := hv
  have hx := B.exec
  have hb := B.bytes
  have hr := B.returns
  have hts := atoms_spec (ws := wsX1_has) B.pre
  have hown : s.vm.findClass RX1 = some m.cls := findClass_of_methodNamed B.named
  have hlocks := B.notSynchronized
  rw [hH]
  have hl := lv_entry ([.ref a, .int (nI t)]) (n := 2) (Nat.le_of_ble_eq_true rfl)
  rw [lg_entry_eq]
  generalize (lg_sl ([.ref a, .int (nI t)]) ++ List.replicate (2 - (lg_sl ([.ref a, .int (nI t)])).length) Slot.unset).toArray = ls at hl ⊢
  have hl : lv_has ls 2 [(0, .ref a), (1, .int (nI t))] := hl
  refine lv_iload_n hx hb dX1_has_0 rfl (lv_at hl 1 rfl) ?_
  refine k_callX (va_runSN (As := [.int (nI t)]) (rest := []) ⟨hx, hb, hml, hown, hts⟩ (c_X3_isTriple_k l D g H t ht) ⟨va_cnB 1 hts gX1_has_X3_isTriple_n15 rfl rfl rfl (hK.2.1 (RX1, 15, yX3_isTriple) (List.mem_of_getElem? (i := 6) rfl)) (hts (.initialized RX3) (by decide +kernel)) (by decide +kernel) ⟨Nat.le_of_ble_eq_true rfl, Nat.le_of_ble_eq_true rfl⟩, hts (.static yX3_isTriple) (by decide +kernel), trivial⟩ ⟨kPc_blind, fun U hU hW => kPc_at hK hU hW⟩ rfl rfl hl.1 rfl (lv_room (Nat.le_of_ble_eq_true rfl)) dX1_has_1 ⟨Nat.le_of_ble_eq_true rfl, Nat.le_of_ble_eq_true rfl⟩) ?_
  refine z_if_eq (tgt := 32) hx hb dX1_has_4 (by decide) (fun h => by cases h) (fun _ => ?_)
  refine lv_aload_n hx hb dX1_has_7 rfl (lv_at hl 0 rfl) ?_
  refine k_get (ci := 1) (C := RX1) (T := TX1) (N := 1) (v := .ref w) hx hb hts (by decide +kernel) hown hK ho rfl 0 (by decide) rfl (hts (.fieldLink RX1 9 RX1 "words" "[J") (by decide +kernel)) rfl dX1_has_8 ?_
  refine lv_iload_n hx hb dX1_has_11 rfl (lv_at hl 1 rfl) ?_
  refine lv_bipush (v := nI 6) hx hb dX1_has_12 (by decide +kernel) ?_
  refine lv_ishr hx hb dX1_has_14 ?_
  refine lv_topi (nm_r (show (nI t) >>> ((nI 6) &&& 31) = nI (t / 64) from pk_shrN (by omega) _ 6 (by decide +kernel)) ?_)
  refine k_lald hx hb hK hw (t / 64) rfl (by omega) (by omega) dX1_has_15 ?_
  refine lv_iload_n hx hb dX1_has_16 rfl (lv_at hl 1 rfl) ?_
  refine lv_bipush (v := nI 63) hx hb dX1_has_17 (by decide +kernel) ?_
  refine lv_iand hx hb dX1_has_19 ?_
  refine lv_topi (nm_r (show (nI t) &&& (nI 63) = nI (t % 64) from pk_andN (by omega) 6 (by decide +kernel)) ?_)
  refine lv_lushr (v := ((f (t / 64)).toUInt64 >>> ((nI (t % 64)).toInt64.toUInt64 &&& Int64.toUInt64 63)).toInt64) hx hb dX1_has_20 rfl ?_
  refine lv_lconst (v := 1) hx hb dX1_has_21 (by decide +kernel) ?_
  refine lv_land hx hb dX1_has_22 ?_
  refine lv_lconst (v := 0) hx hb dX1_has_23 (by decide +kernel) ?_
  refine W.lcmp hx hb dX1_has_24 ?_
  refine lv_if_eq (tgt := 32) hx hb dX1_has_25 (by decide) (fun c_9 => ?_) (fun c_9 => ?_)
  · skip
    refine lv_iconst (v := b2i false) hx hb dX1_has_32 (by decide +kernel) ?_
    exact r_zX hx hb hr (by rw [show bt f t = false from (w_bit _ (by omega)).mp c_9]) dX1_has_33 hlocks
  · skip
    refine lv_iconst (v := b2i true) hx hb dX1_has_28 (by decide +kernel) ?_
    refine lv_goto (tgt := 33) hx hb dX1_has_29 (by decide) ?_
    exact r_zX hx hb hr (by rw [show bt f t = true from ts_nf (fun q => c_9 ((w_bit _ (by omega)).mpr q))]) dX1_has_33 hlocks
set_option maxHeartbeats 4000000 in
set_option maxRecDepth 100000 in
/-- change(t, v) -/
theorem c_X1_change (l : Launch) (D : va_G) (g : Nat → ClassId) (b0 : Nat) (H : Heap) (a w : Nat) (f : Nat → Int64) (ho : HA D H a (eO 1 [.ref w])) (hw : HA D H w (eL (g 2) 64 f)) (hab : b0 ≤ w) (t : Nat) (ht : t < 4096) (v : Bool) : Met l yX1_change wsX1_change ({ frames := 1, cells := 0, slots := 0, locals := 20 } : Room) (kPc D g [.ref a, .int (nI t), .int (b2i v)] H) (kU (fun H1 => ∃ f1 : Nat → Int64, HA D H1 w (eL (g 2) 64 f1) ∧ Chg H H1 w ∧ ∀ u, bt f1 u = if u = t then v else bt f u)) 0 0 (kF b0) := by
  refine Met.ofW (cc := cX1_change) (maxL := 5) (ret := none) (by decide) rfl ?_
  intro p e s m args below meth c s₁ B hml hv
  obtain ⟨rfl, hH, hK⟩ := hv
  have hx := B.exec
  have hb := B.bytes
  have hr := B.returns
  have hts := atoms_spec (ws := wsX1_change) B.pre
  have hown : s.vm.findClass RX1 = some m.cls := findClass_of_methodNamed B.named
  have hlocks := B.notSynchronized
  rw [hH]
  have hl := lv_entry ([.ref a, .int (nI t), .int (b2i v)]) (n := 5) (Nat.le_of_ble_eq_true rfl)
  rw [lg_entry_eq]
  generalize (lg_sl ([.ref a, .int (nI t), .int (b2i v)]) ++ List.replicate (5 - (lg_sl ([.ref a, .int (nI t), .int (b2i v)])).length) Slot.unset).toArray = ls at hl ⊢
  have hl : lv_has ls 5 [(0, .ref a), (1, .int (nI t)), (2, .int (b2i v))] := hl
  refine lv_iload_n hx hb dX1_change_0 rfl (lv_at hl 1 rfl) ?_
  refine k_callX (va_runSN (As := [.int (nI t)]) (rest := []) ⟨hx, hb, hml, hown, hts⟩ (c_X3_isTriple_k l D g H t ht) ⟨va_cnB 1 hts gX1_change_X3_isTriple_n15 rfl rfl rfl (hK.2.1 (RX1, 15, yX3_isTriple) (List.mem_of_getElem? (i := 6) rfl)) (hts (.initialized RX3) (by decide +kernel)) (by decide +kernel) ⟨Nat.le_of_ble_eq_true rfl, Nat.le_of_ble_eq_true rfl⟩, hts (.static yX3_isTriple) (by decide +kernel), trivial⟩ ⟨kPc_blind, fun U hU hW => kPc_at hK hU hW⟩ rfl rfl hl.1 rfl (lv_room (Nat.le_of_ble_eq_true rfl)) dX1_change_1 ⟨Nat.le_of_ble_eq_true rfl, Nat.le_of_ble_eq_true rfl⟩) ?_
  refine z_if_ne (tgt := 8) hx hb dX1_change_4 (by decide) (fun _ => ?_) (fun h => by cases h)
  refine lv_lconst (v := 1) hx hb dX1_change_8 (by decide +kernel) ?_
  refine lv_iload_n hx hb dX1_change_9 rfl (lv_at hl 1 rfl) ?_
  refine lv_bipush (v := nI 63) hx hb dX1_change_10 (by decide +kernel) ?_
  refine lv_iand hx hb dX1_change_12 ?_
  refine lv_topi (nm_r (show (nI t) &&& (nI 63) = nI (t % 64) from pk_andN (by omega) 6 (by decide +kernel)) ?_)
  refine lv_lshl (v := (1) <<< ((nI (t % 64)).toInt64 &&& 63)) hx hb dX1_change_13 rfl ?_
  refine lv_lstore_n (lv' := [(3, .long ((1) <<< ((nI (t % 64)).toInt64 &&& 63))), (0, .ref a), (1, .int (nI t)), (2, .int (b2i v))]) hx hb dX1_change_14 rfl hl (by decide) rfl (fun ls hl => ?_)
  refine lv_iload_n hx hb dX1_change_15 rfl (lv_at hl 3 rfl) ?_
  refine z_if_eq (tgt := 35) hx hb dX1_change_16 (by decide) (fun c_10 => ?_) (fun c_10 => ?_)
  · skip
    refine lv_aload_n hx hb dX1_change_35 rfl (lv_at hl 1 rfl) ?_
    refine k_get (ci := 1) (C := RX1) (T := TX1) (N := 1) (v := .ref w) hx hb hts (by decide +kernel) hown hK ho rfl 0 (by decide) rfl (hts (.fieldLink RX1 9 RX1 "words" "[J") (by decide +kernel)) rfl dX1_change_36 ?_
    refine lv_iload_n hx hb dX1_change_39 rfl (lv_at hl 2 rfl) ?_
    refine lv_bipush (v := nI 6) hx hb dX1_change_40 (by decide +kernel) ?_
    refine lv_ishr hx hb dX1_change_42 ?_
    refine lv_topi (nm_r (show (nI t) >>> ((nI 6) &&& 31) = nI (t / 64) from pk_shrN (by omega) _ 6 (by decide +kernel)) ?_)
    refine lv_dup2_11 hx hb dX1_change_43 rfl rfl ?_
    refine k_lald hx hb hK hw (t / 64) rfl (by omega) (by omega) dX1_change_44 ?_
    refine lv_lload_n hx hb dX1_change_45 rfl (lv_at hl 0 rfl) ?_
    refine lv_ldc2 (v := (-1)) hx hb hown (hts (.constantLong RX1 19 (-1)) (by decide +kernel)) dX1_change_46 ?_
    refine lv_lxor hx hb dX1_change_49 ?_
    refine lv_land hx hb dX1_change_50 ?_
    refine k_last hx hb hK hw LB.nil hab (t / 64) rfl (by omega) (by omega) dX1_change_51 (fun H_11 locs_12 hw_13 hC_14 hLB_15 => ?_)
    exact r_vU hx hb hr hLB_15 (Nat.le_refl _) (Nat.le_refl _) ⟨_, hw_13, hC_14, fun u => by rw [c_10]; exact bt_set f t _ _ (fun j hj => w_del _ (by omega) j hj)⟩ dX1_change_52 hlocks
  · skip
    refine lv_aload_n hx hb dX1_change_19 rfl (lv_at hl 1 rfl) ?_
    refine k_get (ci := 1) (C := RX1) (T := TX1) (N := 1) (v := .ref w) hx hb hts (by decide +kernel) hown hK ho rfl 0 (by decide) rfl (hts (.fieldLink RX1 9 RX1 "words" "[J") (by decide +kernel)) rfl dX1_change_20 ?_
    refine lv_iload_n hx hb dX1_change_23 rfl (lv_at hl 2 rfl) ?_
    refine lv_bipush (v := nI 6) hx hb dX1_change_24 (by decide +kernel) ?_
    refine lv_ishr hx hb dX1_change_26 ?_
    refine lv_topi (nm_r (show (nI t) >>> ((nI 6) &&& 31) = nI (t / 64) from pk_shrN (by omega) _ 6 (by decide +kernel)) ?_)
    refine lv_dup2_11 hx hb dX1_change_27 rfl rfl ?_
    refine k_lald hx hb hK hw (t / 64) rfl (by omega) (by omega) dX1_change_28 ?_
    refine lv_lload_n hx hb dX1_change_29 rfl (lv_at hl 0 rfl) ?_
    refine lv_lor hx hb dX1_change_30 ?_
    refine k_last hx hb hK hw LB.nil hab (t / 64) rfl (by omega) (by omega) dX1_change_31 (fun H_16 locs_17 hw_18 hC_19 hLB_20 => ?_)
    refine lv_goto (tgt := 52) hx hb dX1_change_32 (by decide) ?_
    exact r_vU hx hb hr hLB_20 (Nat.le_refl _) (Nat.le_refl _) ⟨_, hw_18, hC_19, fun u => by rw [c_10]; exact bt_set f t _ _ (fun j hj => w_put _ (by omega) j hj)⟩ dX1_change_52 hlocks
set_option maxHeartbeats 4000000 in
set_option maxRecDepth 100000 in
/-- becomeDifference -/
theorem c_X1_becomeDifference (l : Launch) (D : va_G) (g : Nat → ClassId) (b0 : Nat) (H : Heap) (a w : Nat) (f : Nat → Int64) (ho : HA D H a (eO 1 [.ref w])) (hw : HA D H w (eL (g 2) 64 f)) (hab : b0 ≤ w) (haw : a ≠ w) (x wx : Nat) (fx : Nat → Int64) (ho_x : HA D H x (eO 1 [.ref wx])) (hw_x : HA D H wx (eL (g 2) 64 fx)) (hn_x : x ≠ w) (hn_wx : wx ≠ w) (y wy : Nat) (fy : Nat → Int64) (ho_y : HA D H y (eO 1 [.ref wy])) (hw_y : HA D H wy (eL (g 2) 64 fy)) (hn_y : y ≠ w) (hn_wy : wy ≠ w) : Met l yX1_becomeDifference wsX1_becomeDifference ({ frames := 0, cells := 0, slots := 0, locals := 0 } : Room) (kPc D g [.ref a, .ref x, .ref y] H) (kU (fun H1 => ∃ f1 : Nat → Int64, HA D H1 w (eL (g 2) 64 f1) ∧ Chg H H1 w ∧ ∀ j, j < 64 → f1 j = (fx j) ^^^ (fy j))) 0 0 (kF b0) := by
  refine Met.ofW (cc := cX1_becomeDifference) (maxL := 4) (ret := none) (by decide) rfl ?_
  intro p e s m args below meth c s₁ B hml hv
  obtain ⟨rfl, hH, hK⟩ := hv
  have hx := B.exec
  have hb := B.bytes
  have hr := B.returns
  have hts := atoms_spec (ws := wsX1_becomeDifference) B.pre
  have hown : s.vm.findClass RX1 = some m.cls := findClass_of_methodNamed B.named
  have hlocks := B.notSynchronized
  rw [hH]
  have hl := lv_entry ([.ref a, .ref x, .ref y]) (n := 4) (Nat.le_of_ble_eq_true rfl)
  rw [lg_entry_eq]
  generalize (lg_sl ([.ref a, .ref x, .ref y]) ++ List.replicate (4 - (lg_sl ([.ref a, .ref x, .ref y])).length) Slot.unset).toArray = ls at hl ⊢
  have hl : lv_has ls 4 [(0, .ref a), (1, .ref x), (2, .ref y)] := hl
  refine lv_iconst (v := nI 0) hx hb dX1_becomeDifference_0 (by decide +kernel) ?_
  refine lv_istore_n (lv' := [(3, .int (nI 0)), (0, .ref a), (1, .ref x), (2, .ref y)]) hx hb dX1_becomeDifference_1 rfl hl (by decide) rfl (fun ls hl => ?_)
  have loop : ∀ (n i : Nat) (H1 : Heap) (locs1 : List Loc) (f1 : Nat → Int64), 64 < i + n → i ≤ 64 → HA D H1 w (eL (g 2) 64 f1) → Chg H H1 w → LB b0 locs1 → (∀ j, j < i → f1 j = (fx j) ^^^ (fy j)) → ∀ ls, lv_has ls 4 [(3, .int (nI i)), (0, .ref a), (1, .ref x), (2, .ref y)] → W p l e (headSpec wsX1_becomeDifference ({ frames := 0, cells := 0, slots := 0, locals := 0 } : Room)).room s m ([.ref a, .ref x, .ref y] : List Value).toArray below meth c H1 locs1 0 0 (MQ below (kU (fun H1 => ∃ f1 : Nat → Int64, HA D H1 w (eL (g 2) 64 f1) ∧ Chg H H1 w ∧ ∀ j, j < 64 → f1 j = (fx j) ^^^ (fy j))) ([.ref a, .ref x, .ref y] : List Value).toArray s 0 0 (kF b0)) (F0 m 2 ls []) := by
    intro n
    induction n with
    | zero => intro i H1 locs1 f1 h0 h1; omega
    | succ n ih =>
      intro i H1 locs1 f1 hn hi hf hC hLB hv ls hl
      have hoa := ho.chg hC haw
      have hob_x := ho_x.chg hC hn_x
      have hwb_x := hw_x.chg hC hn_wx
      have hob_y := ho_y.chg hC hn_y
      have hwb_y := hw_y.chg hC hn_wy
      refine lv_iload_n hx hb dX1_becomeDifference_2 rfl (lv_at hl 0 rfl) ?_
      refine lv_bipush (v := nI 64) hx hb dX1_becomeDifference_3 (by decide +kernel) ?_
      refine n_icmp_ge (tgt := 33) hx hb dX1_becomeDifference_5 (by decide) (by omega) (by omega) (fun c_21 => ?_) (fun c_21 => ?_)
      · skip
        exact r_vU hx hb hr hLB (Nat.le_refl _) (Nat.le_refl _) ⟨f1, hf, hC, fun j hj => hv j (by omega)⟩ dX1_becomeDifference_33 hlocks
      · skip
        refine lv_aload_n hx hb dX1_becomeDifference_8 rfl (lv_at hl 1 rfl) ?_
        refine k_get (ci := 1) (C := RX1) (T := TX1) (N := 1) (v := .ref w) hx hb hts (by decide +kernel) hown hK hoa rfl 0 (by decide) rfl (hts (.fieldLink RX1 9 RX1 "words" "[J") (by decide +kernel)) rfl dX1_becomeDifference_9 ?_
        refine lv_iload_n hx hb dX1_becomeDifference_12 rfl (lv_at hl 0 rfl) ?_
        refine lv_aload_n hx hb dX1_becomeDifference_13 rfl (lv_at hl 2 rfl) ?_
        refine k_get (ci := 1) (C := RX1) (T := TX1) (N := 1) (v := .ref wx) hx hb hts (by decide +kernel) hown hK hob_x rfl 0 (by decide) rfl (hts (.fieldLink RX1 9 RX1 "words" "[J") (by decide +kernel)) rfl dX1_becomeDifference_14 ?_
        refine lv_iload_n hx hb dX1_becomeDifference_17 rfl (lv_at hl 0 rfl) ?_
        refine k_lald hx hb hK hwb_x (i) rfl (by omega) (by omega) dX1_becomeDifference_18 ?_
        refine lv_aload_n hx hb dX1_becomeDifference_19 rfl (lv_at hl 3 rfl) ?_
        refine k_get (ci := 1) (C := RX1) (T := TX1) (N := 1) (v := .ref wy) hx hb hts (by decide +kernel) hown hK hob_y rfl 0 (by decide) rfl (hts (.fieldLink RX1 9 RX1 "words" "[J") (by decide +kernel)) rfl dX1_becomeDifference_20 ?_
        refine lv_iload_n hx hb dX1_becomeDifference_23 rfl (lv_at hl 0 rfl) ?_
        refine k_lald hx hb hK hwb_y (i) rfl (by omega) (by omega) dX1_becomeDifference_24 ?_
        refine lv_lxor hx hb dX1_becomeDifference_25 ?_
        refine k_last hx hb hK hf hLB hab (i) rfl (by omega) (by omega) dX1_becomeDifference_26 (fun H_22 locs_23 hw_24 hC_25 hLB_26 => ?_)
        refine lv_iinc (v := nI (i + 1)) (lv' := [(3, .int (nI (i + 1))), (0, .ref a), (1, .ref x), (2, .ref y)]) hx hb dX1_becomeDifference_27 hl (k := 0) rfl (nI_add (i) 1) (by decide) rfl (fun ls hl => ?_)
        refine lv_goto (tgt := 2) hx hb dX1_becomeDifference_30 (by decide) ?_
        refine ih (i + 1) H_22 locs_23 _ (by omega) (by omega) hw_24 (hC.tr hC_25) hLB_26 ?_ ls (lv_sub hl [0, 1, 2, 3] rfl)
        intro j hj
        rcases Nat.lt_or_ge j i with q | q
        · rw [pk_uLn (by omega)]; exact hv j q
        · have e : j = i := by omega
          subst e
          rw [pk_uLs]
  exact loop 65 0 H [] f (by omega) (by omega) hw Chg.rf LB.nil (fun j h => by omega) ls (lv_sub hl [0, 1, 2, 3] rfl)
set_option maxHeartbeats 4000000 in
set_option maxRecDepth 100000 in
/-- becomeMerged -/
theorem c_X1_becomeMerged (l : Launch) (D : va_G) (g : Nat → ClassId) (b0 : Nat) (H : Heap) (a w : Nat) (f : Nat → Int64) (ho : HA D H a (eO 1 [.ref w])) (hw : HA D H w (eL (g 2) 64 f)) (hab : b0 ≤ w) (haw : a ≠ w) (x wx : Nat) (fx : Nat → Int64) (ho_x : HA D H x (eO 1 [.ref wx])) (hw_x : HA D H wx (eL (g 2) 64 fx)) (hn_x : x ≠ w) (hn_wx : wx ≠ w) (y wy : Nat) (fy : Nat → Int64) (ho_y : HA D H y (eO 1 [.ref wy])) (hw_y : HA D H wy (eL (g 2) 64 fy)) (hn_y : y ≠ w) (hn_wy : wy ≠ w) (z wz : Nat) (fz : Nat → Int64) (ho_z : HA D H z (eO 1 [.ref wz])) (hw_z : HA D H wz (eL (g 2) 64 fz)) (hn_z : z ≠ w) (hn_wz : wz ≠ w) : Met l yX1_becomeMerged wsX1_becomeMerged ({ frames := 0, cells := 0, slots := 0, locals := 0 } : Room) (kPc D g [.ref a, .ref x, .ref y, .ref z] H) (kU (fun H1 => ∃ f1 : Nat → Int64, HA D H1 w (eL (g 2) 64 f1) ∧ Chg H H1 w ∧ ∀ j, j < 64 → f1 j = (((fx j) ||| (fy j)) &&& ((fz j) ^^^ (-1))) ||| ((fx j) &&& (fy j)))) 0 0 (kF b0) := by
  refine Met.ofW (cc := cX1_becomeMerged) (maxL := 7) (ret := none) (by decide) rfl ?_
  intro p e s m args below meth c s₁ B hml hv
  obtain ⟨rfl, hH, hK⟩ := hv
  have hx := B.exec
  have hb := B.bytes
  have hr := B.returns
  have hts := atoms_spec (ws := wsX1_becomeMerged) B.pre
  have hown : s.vm.findClass RX1 = some m.cls := findClass_of_methodNamed B.named
  have hlocks := B.notSynchronized
  rw [hH]
  have hl := lv_entry ([.ref a, .ref x, .ref y, .ref z]) (n := 7) (Nat.le_of_ble_eq_true rfl)
  rw [lg_entry_eq]
  generalize (lg_sl ([.ref a, .ref x, .ref y, .ref z]) ++ List.replicate (7 - (lg_sl ([.ref a, .ref x, .ref y, .ref z])).length) Slot.unset).toArray = ls at hl ⊢
  have hl : lv_has ls 7 [(0, .ref a), (1, .ref x), (2, .ref y), (3, .ref z)] := hl
  refine lv_iconst (v := nI 0) hx hb dX1_becomeMerged_0 (by decide +kernel) ?_
  refine lv_istore (lv' := [(4, .int (nI 0)), (0, .ref a), (1, .ref x), (2, .ref y), (3, .ref z)]) hx hb dX1_becomeMerged_1 hl (by decide) rfl (fun ls hl => ?_)
  have loop : ∀ (n i : Nat) (H1 : Heap) (locs1 : List Loc) (f1 : Nat → Int64), 64 < i + n → i ≤ 64 → HA D H1 w (eL (g 2) 64 f1) → Chg H H1 w → LB b0 locs1 → (∀ j, j < i → f1 j = (((fx j) ||| (fy j)) &&& ((fz j) ^^^ (-1))) ||| ((fx j) &&& (fy j))) → ∀ ls, lv_has ls 7 [(4, .int (nI i)), (0, .ref a), (1, .ref x), (2, .ref y), (3, .ref z)] → W p l e (headSpec wsX1_becomeMerged ({ frames := 0, cells := 0, slots := 0, locals := 0 } : Room)).room s m ([.ref a, .ref x, .ref y, .ref z] : List Value).toArray below meth c H1 locs1 0 0 (MQ below (kU (fun H1 => ∃ f1 : Nat → Int64, HA D H1 w (eL (g 2) 64 f1) ∧ Chg H H1 w ∧ ∀ j, j < 64 → f1 j = (((fx j) ||| (fy j)) &&& ((fz j) ^^^ (-1))) ||| ((fx j) &&& (fy j)))) ([.ref a, .ref x, .ref y, .ref z] : List Value).toArray s 0 0 (kF b0)) (F0 m 3 ls []) := by
    intro n
    induction n with
    | zero => intro i H1 locs1 f1 h0 h1; omega
    | succ n ih =>
      intro i H1 locs1 f1 hn hi hf hC hLB hv ls hl
      have hoa := ho.chg hC haw
      have hob_x := ho_x.chg hC hn_x
      have hwb_x := hw_x.chg hC hn_wx
      have hob_y := ho_y.chg hC hn_y
      have hwb_y := hw_y.chg hC hn_wy
      have hob_z := ho_z.chg hC hn_z
      have hwb_z := hw_z.chg hC hn_wz
      refine lv_iload hx hb dX1_becomeMerged_3 (lv_at hl 0 rfl) ?_
      refine lv_bipush (v := nI 64) hx hb dX1_becomeMerged_5 (by decide +kernel) ?_
      refine n_icmp_ge (tgt := 70) hx hb dX1_becomeMerged_7 (by decide) (by omega) (by omega) (fun c_27 => ?_) (fun c_27 => ?_)
      · skip
        exact r_vU hx hb hr hLB (Nat.le_refl _) (Nat.le_refl _) ⟨f1, hf, hC, fun j hj => hv j (by omega)⟩ dX1_becomeMerged_70 hlocks
      · skip
        refine lv_aload_n hx hb dX1_becomeMerged_10 rfl (lv_at hl 2 rfl) ?_
        refine k_get (ci := 1) (C := RX1) (T := TX1) (N := 1) (v := .ref wx) hx hb hts (by decide +kernel) hown hK hob_x rfl 0 (by decide) rfl (hts (.fieldLink RX1 9 RX1 "words" "[J") (by decide +kernel)) rfl dX1_becomeMerged_11 ?_
        refine lv_iload hx hb dX1_becomeMerged_14 (lv_at hl 0 rfl) ?_
        refine k_lald hx hb hK hwb_x (i) rfl (by omega) (by omega) dX1_becomeMerged_16 ?_
        refine lv_aload_n hx hb dX1_becomeMerged_17 rfl (lv_at hl 3 rfl) ?_
        refine k_get (ci := 1) (C := RX1) (T := TX1) (N := 1) (v := .ref wy) hx hb hts (by decide +kernel) hown hK hob_y rfl 0 (by decide) rfl (hts (.fieldLink RX1 9 RX1 "words" "[J") (by decide +kernel)) rfl dX1_becomeMerged_18 ?_
        refine lv_iload hx hb dX1_becomeMerged_21 (lv_at hl 0 rfl) ?_
        refine k_lald hx hb hK hwb_y (i) rfl (by omega) (by omega) dX1_becomeMerged_23 ?_
        refine lv_lor hx hb dX1_becomeMerged_24 ?_
        refine lv_aload_n hx hb dX1_becomeMerged_25 rfl (lv_at hl 4 rfl) ?_
        refine k_get (ci := 1) (C := RX1) (T := TX1) (N := 1) (v := .ref wz) hx hb hts (by decide +kernel) hown hK hob_z rfl 0 (by decide) rfl (hts (.fieldLink RX1 9 RX1 "words" "[J") (by decide +kernel)) rfl dX1_becomeMerged_26 ?_
        refine lv_iload hx hb dX1_becomeMerged_29 (lv_at hl 0 rfl) ?_
        refine k_lald hx hb hK hwb_z (i) rfl (by omega) (by omega) dX1_becomeMerged_31 ?_
        refine lv_ldc2 (v := (-1)) hx hb hown (hts (.constantLong RX1 19 (-1)) (by decide +kernel)) dX1_becomeMerged_32 ?_
        refine lv_lxor hx hb dX1_becomeMerged_35 ?_
        refine lv_land hx hb dX1_becomeMerged_36 ?_
        refine lv_lstore (lv' := [(5, .long (((fx (i)) ||| (fy (i))) &&& ((fz (i)) ^^^ ((-1))))), (4, .int (nI i)), (0, .ref a), (1, .ref x), (2, .ref y), (3, .ref z)]) hx hb dX1_becomeMerged_37 hl (by decide) rfl (fun ls hl => ?_)
        refine lv_aload_n hx hb dX1_becomeMerged_39 rfl (lv_at hl 2 rfl) ?_
        refine k_get (ci := 1) (C := RX1) (T := TX1) (N := 1) (v := .ref w) hx hb hts (by decide +kernel) hown hK hoa rfl 0 (by decide) rfl (hts (.fieldLink RX1 9 RX1 "words" "[J") (by decide +kernel)) rfl dX1_becomeMerged_40 ?_
        refine lv_iload hx hb dX1_becomeMerged_43 (lv_at hl 1 rfl) ?_
        refine lv_lload hx hb dX1_becomeMerged_45 (lv_at hl 0 rfl) ?_
        refine lv_aload_n hx hb dX1_becomeMerged_47 rfl (lv_at hl 3 rfl) ?_
        refine k_get (ci := 1) (C := RX1) (T := TX1) (N := 1) (v := .ref wx) hx hb hts (by decide +kernel) hown hK hob_x rfl 0 (by decide) rfl (hts (.fieldLink RX1 9 RX1 "words" "[J") (by decide +kernel)) rfl dX1_becomeMerged_48 ?_
        refine lv_iload hx hb dX1_becomeMerged_51 (lv_at hl 1 rfl) ?_
        refine k_lald hx hb hK hwb_x (i) rfl (by omega) (by omega) dX1_becomeMerged_53 ?_
        refine lv_aload_n hx hb dX1_becomeMerged_54 rfl (lv_at hl 4 rfl) ?_
        refine k_get (ci := 1) (C := RX1) (T := TX1) (N := 1) (v := .ref wy) hx hb hts (by decide +kernel) hown hK hob_y rfl 0 (by decide) rfl (hts (.fieldLink RX1 9 RX1 "words" "[J") (by decide +kernel)) rfl dX1_becomeMerged_55 ?_
        refine lv_iload hx hb dX1_becomeMerged_58 (lv_at hl 1 rfl) ?_
        refine k_lald hx hb hK hwb_y (i) rfl (by omega) (by omega) dX1_becomeMerged_60 ?_
        refine lv_land hx hb dX1_becomeMerged_61 ?_
        refine lv_lor hx hb dX1_becomeMerged_62 ?_
        refine k_last hx hb hK hf hLB hab (i) rfl (by omega) (by omega) dX1_becomeMerged_63 (fun H_28 locs_29 hw_30 hC_31 hLB_32 => ?_)
        refine lv_iinc (v := nI (i + 1)) (lv' := [(4, .int (nI (i + 1))), (5, .long (((fx (i)) ||| (fy (i))) &&& ((fz (i)) ^^^ ((-1))))), (0, .ref a), (1, .ref x), (2, .ref y), (3, .ref z)]) hx hb dX1_becomeMerged_64 hl (k := 1) rfl (nI_add (i) 1) (by decide) rfl (fun ls hl => ?_)
        refine lv_goto (tgt := 3) hx hb dX1_becomeMerged_67 (by decide) ?_
        refine ih (i + 1) H_28 locs_29 _ (by omega) (by omega) hw_30 (hC.tr hC_31) hLB_32 ?_ ls (lv_sub hl [0, 2, 3, 4, 5] rfl)
        intro j hj
        rcases Nat.lt_or_ge j i with q | q
        · rw [pk_uLn (by omega)]; exact hv j q
        · have e : j = i := by omega
          subst e
          rw [pk_uLs]
  exact loop 65 0 H [] f (by omega) (by omega) hw Chg.rf LB.nil (fun j h => by omega) ls (lv_sub hl [0, 1, 2, 3, 4] rfl)
set_option maxHeartbeats 4000000 in
set_option maxRecDepth 100000 in
/-- becomeLaid -/
theorem c_X1_becomeLaid (l : Launch) (D : va_G) (g : Nat → ClassId) (b0 : Nat) (H : Heap) (a w : Nat) (f : Nat → Int64) (ho : HA D H a (eO 1 [.ref w])) (hw : HA D H w (eL (g 2) 64 f)) (hab : b0 ≤ w) (haw : a ≠ w) (x wx : Nat) (fx : Nat → Int64) (ho_x : HA D H x (eO 1 [.ref wx])) (hw_x : HA D H wx (eL (g 2) 64 fx)) (hn_x : x ≠ w) (hn_wx : wx ≠ w) (y wy : Nat) (fy : Nat → Int64) (ho_y : HA D H y (eO 1 [.ref wy])) (hw_y : HA D H wy (eL (g 2) 64 fy)) (hn_y : y ≠ w) (hn_wy : wy ≠ w) (z wz : Nat) (fz : Nat → Int64) (ho_z : HA D H z (eO 1 [.ref wz])) (hw_z : HA D H wz (eL (g 2) 64 fz)) (hn_z : z ≠ w) (hn_wz : wz ≠ w) : Met l yX1_becomeLaid wsX1_becomeLaid ({ frames := 0, cells := 0, slots := 0, locals := 0 } : Room) (kPc D g [.ref a, .ref x, .ref y, .ref z] H) (kU (fun H1 => ∃ f1 : Nat → Int64, HA D H1 w (eL (g 2) 64 f1) ∧ Chg H H1 w ∧ ∀ j, j < 64 → f1 j = ((fx j) &&& (((fy j) &&& ((fz j) ^^^ (-1))) ^^^ (-1))) ||| ((fz j) &&& ((fy j) ^^^ (-1))))) 0 0 (kF b0) := by
  refine Met.ofW (cc := cX1_becomeLaid) (maxL := 9) (ret := none) (by decide) rfl ?_
  intro p e s m args below meth c s₁ B hml hv
  obtain ⟨rfl, hH, hK⟩ := hv
  have hx := B.exec
  have hb := B.bytes
  have hr := B.returns
  have hts := atoms_spec (ws := wsX1_becomeLaid) B.pre
  have hown : s.vm.findClass RX1 = some m.cls := findClass_of_methodNamed B.named
  have hlocks := B.notSynchronized
  rw [hH]
  have hl := lv_entry ([.ref a, .ref x, .ref y, .ref z]) (n := 9) (Nat.le_of_ble_eq_true rfl)
  rw [lg_entry_eq]
  generalize (lg_sl ([.ref a, .ref x, .ref y, .ref z]) ++ List.replicate (9 - (lg_sl ([.ref a, .ref x, .ref y, .ref z])).length) Slot.unset).toArray = ls at hl ⊢
  have hl : lv_has ls 9 [(0, .ref a), (1, .ref x), (2, .ref y), (3, .ref z)] := hl
  refine lv_iconst (v := nI 0) hx hb dX1_becomeLaid_0 (by decide +kernel) ?_
  refine lv_istore (lv' := [(4, .int (nI 0)), (0, .ref a), (1, .ref x), (2, .ref y), (3, .ref z)]) hx hb dX1_becomeLaid_1 hl (by decide) rfl (fun ls hl => ?_)
  have loop : ∀ (n i : Nat) (H1 : Heap) (locs1 : List Loc) (f1 : Nat → Int64), 64 < i + n → i ≤ 64 → HA D H1 w (eL (g 2) 64 f1) → Chg H H1 w → LB b0 locs1 → (∀ j, j < i → f1 j = ((fx j) &&& (((fy j) &&& ((fz j) ^^^ (-1))) ^^^ (-1))) ||| ((fz j) &&& ((fy j) ^^^ (-1)))) → ∀ ls, lv_has ls 9 [(4, .int (nI i)), (0, .ref a), (1, .ref x), (2, .ref y), (3, .ref z)] → W p l e (headSpec wsX1_becomeLaid ({ frames := 0, cells := 0, slots := 0, locals := 0 } : Room)).room s m ([.ref a, .ref x, .ref y, .ref z] : List Value).toArray below meth c H1 locs1 0 0 (MQ below (kU (fun H1 => ∃ f1 : Nat → Int64, HA D H1 w (eL (g 2) 64 f1) ∧ Chg H H1 w ∧ ∀ j, j < 64 → f1 j = ((fx j) &&& (((fy j) &&& ((fz j) ^^^ (-1))) ^^^ (-1))) ||| ((fz j) &&& ((fy j) ^^^ (-1))))) ([.ref a, .ref x, .ref y, .ref z] : List Value).toArray s 0 0 (kF b0)) (F0 m 3 ls []) := by
    intro n
    induction n with
    | zero => intro i H1 locs1 f1 h0 h1; omega
    | succ n ih =>
      intro i H1 locs1 f1 hn hi hf hC hLB hv ls hl
      have hoa := ho.chg hC haw
      have hob_x := ho_x.chg hC hn_x
      have hwb_x := hw_x.chg hC hn_wx
      have hob_y := ho_y.chg hC hn_y
      have hwb_y := hw_y.chg hC hn_wy
      have hob_z := ho_z.chg hC hn_z
      have hwb_z := hw_z.chg hC hn_wz
      refine lv_iload hx hb dX1_becomeLaid_3 (lv_at hl 0 rfl) ?_
      refine lv_bipush (v := nI 64) hx hb dX1_becomeLaid_5 (by decide +kernel) ?_
      refine n_icmp_ge (tgt := 82) hx hb dX1_becomeLaid_7 (by decide) (by omega) (by omega) (fun c_33 => ?_) (fun c_33 => ?_)
      · skip
        exact r_vU hx hb hr hLB (Nat.le_refl _) (Nat.le_refl _) ⟨f1, hf, hC, fun j hj => hv j (by omega)⟩ dX1_becomeLaid_82 hlocks
      · skip
        refine lv_aload_n hx hb dX1_becomeLaid_10 rfl (lv_at hl 3 rfl) ?_
        refine k_get (ci := 1) (C := RX1) (T := TX1) (N := 1) (v := .ref wy) hx hb hts (by decide +kernel) hown hK hob_y rfl 0 (by decide) rfl (hts (.fieldLink RX1 9 RX1 "words" "[J") (by decide +kernel)) rfl dX1_becomeLaid_11 ?_
        refine lv_iload hx hb dX1_becomeLaid_14 (lv_at hl 0 rfl) ?_
        refine k_lald hx hb hK hwb_y (i) rfl (by omega) (by omega) dX1_becomeLaid_16 ?_
        refine lv_aload_n hx hb dX1_becomeLaid_17 rfl (lv_at hl 4 rfl) ?_
        refine k_get (ci := 1) (C := RX1) (T := TX1) (N := 1) (v := .ref wz) hx hb hts (by decide +kernel) hown hK hob_z rfl 0 (by decide) rfl (hts (.fieldLink RX1 9 RX1 "words" "[J") (by decide +kernel)) rfl dX1_becomeLaid_18 ?_
        refine lv_iload hx hb dX1_becomeLaid_21 (lv_at hl 0 rfl) ?_
        refine k_lald hx hb hK hwb_z (i) rfl (by omega) (by omega) dX1_becomeLaid_23 ?_
        refine lv_ldc2 (v := (-1)) hx hb hown (hts (.constantLong RX1 19 (-1)) (by decide +kernel)) dX1_becomeLaid_24 ?_
        refine lv_lxor hx hb dX1_becomeLaid_27 ?_
        refine lv_land hx hb dX1_becomeLaid_28 ?_
        refine lv_lstore (lv' := [(5, .long ((fy (i)) &&& ((fz (i)) ^^^ ((-1))))), (4, .int (nI i)), (0, .ref a), (1, .ref x), (2, .ref y), (3, .ref z)]) hx hb dX1_becomeLaid_29 hl (by decide) rfl (fun ls hl => ?_)
        refine lv_aload_n hx hb dX1_becomeLaid_31 rfl (lv_at hl 5 rfl) ?_
        refine k_get (ci := 1) (C := RX1) (T := TX1) (N := 1) (v := .ref wz) hx hb hts (by decide +kernel) hown hK hob_z rfl 0 (by decide) rfl (hts (.fieldLink RX1 9 RX1 "words" "[J") (by decide +kernel)) rfl dX1_becomeLaid_32 ?_
        refine lv_iload hx hb dX1_becomeLaid_35 (lv_at hl 1 rfl) ?_
        refine k_lald hx hb hK hwb_z (i) rfl (by omega) (by omega) dX1_becomeLaid_37 ?_
        refine lv_aload_n hx hb dX1_becomeLaid_38 rfl (lv_at hl 4 rfl) ?_
        refine k_get (ci := 1) (C := RX1) (T := TX1) (N := 1) (v := .ref wy) hx hb hts (by decide +kernel) hown hK hob_y rfl 0 (by decide) rfl (hts (.fieldLink RX1 9 RX1 "words" "[J") (by decide +kernel)) rfl dX1_becomeLaid_39 ?_
        refine lv_iload hx hb dX1_becomeLaid_42 (lv_at hl 1 rfl) ?_
        refine k_lald hx hb hK hwb_y (i) rfl (by omega) (by omega) dX1_becomeLaid_44 ?_
        refine lv_ldc2 (v := (-1)) hx hb hown (hts (.constantLong RX1 19 (-1)) (by decide +kernel)) dX1_becomeLaid_45 ?_
        refine lv_lxor hx hb dX1_becomeLaid_48 ?_
        refine lv_land hx hb dX1_becomeLaid_49 ?_
        refine lv_lstore (lv' := [(7, .long ((fz (i)) &&& ((fy (i)) ^^^ ((-1))))), (5, .long ((fy (i)) &&& ((fz (i)) ^^^ ((-1))))), (4, .int (nI i)), (0, .ref a), (1, .ref x), (2, .ref y), (3, .ref z)]) hx hb dX1_becomeLaid_50 hl (by decide) rfl (fun ls hl => ?_)
        refine lv_aload_n hx hb dX1_becomeLaid_52 rfl (lv_at hl 3 rfl) ?_
        refine k_get (ci := 1) (C := RX1) (T := TX1) (N := 1) (v := .ref w) hx hb hts (by decide +kernel) hown hK hoa rfl 0 (by decide) rfl (hts (.fieldLink RX1 9 RX1 "words" "[J") (by decide +kernel)) rfl dX1_becomeLaid_53 ?_
        refine lv_iload hx hb dX1_becomeLaid_56 (lv_at hl 2 rfl) ?_
        refine lv_aload_n hx hb dX1_becomeLaid_58 rfl (lv_at hl 4 rfl) ?_
        refine k_get (ci := 1) (C := RX1) (T := TX1) (N := 1) (v := .ref wx) hx hb hts (by decide +kernel) hown hK hob_x rfl 0 (by decide) rfl (hts (.fieldLink RX1 9 RX1 "words" "[J") (by decide +kernel)) rfl dX1_becomeLaid_59 ?_
        refine lv_iload hx hb dX1_becomeLaid_62 (lv_at hl 2 rfl) ?_
        refine k_lald hx hb hK hwb_x (i) rfl (by omega) (by omega) dX1_becomeLaid_64 ?_
        refine lv_lload hx hb dX1_becomeLaid_65 (lv_at hl 1 rfl) ?_
        refine lv_ldc2 (v := (-1)) hx hb hown (hts (.constantLong RX1 19 (-1)) (by decide +kernel)) dX1_becomeLaid_67 ?_
        refine lv_lxor hx hb dX1_becomeLaid_70 ?_
        refine lv_land hx hb dX1_becomeLaid_71 ?_
        refine lv_lload hx hb dX1_becomeLaid_72 (lv_at hl 0 rfl) ?_
        refine lv_lor hx hb dX1_becomeLaid_74 ?_
        refine k_last hx hb hK hf hLB hab (i) rfl (by omega) (by omega) dX1_becomeLaid_75 (fun H_34 locs_35 hw_36 hC_37 hLB_38 => ?_)
        refine lv_iinc (v := nI (i + 1)) (lv' := [(4, .int (nI (i + 1))), (7, .long ((fz (i)) &&& ((fy (i)) ^^^ ((-1))))), (5, .long ((fy (i)) &&& ((fz (i)) ^^^ ((-1))))), (0, .ref a), (1, .ref x), (2, .ref y), (3, .ref z)]) hx hb dX1_becomeLaid_76 hl (k := 2) rfl (nI_add (i) 1) (by decide) rfl (fun ls hl => ?_)
        refine lv_goto (tgt := 3) hx hb dX1_becomeLaid_79 (by decide) ?_
        refine ih (i + 1) H_34 locs_35 _ (by omega) (by omega) hw_36 (hC.tr hC_37) hLB_38 ?_ ls (lv_sub hl [0, 3, 4, 5, 6] rfl)
        intro j hj
        rcases Nat.lt_or_ge j i with q | q
        · rw [pk_uLn (by omega)]; exact hv j q
        · have e : j = i := by omega
          subst e
          rw [pk_uLs]
  exact loop 65 0 H [] f (by omega) (by omega) hw Chg.rf LB.nil (fun j h => by omega) ls (lv_sub hl [0, 1, 2, 3, 4] rfl)

/-! 07: leaves of a set: comparisons, points, copies (laid by wip/gen/leaf2.py) -/
set_option maxHeartbeats 4000000 in
set_option maxRecDepth 100000 in
theorem c_X1_isSameAs (l : Launch) (D : va_G) (g : Nat → ClassId) (H : Heap) (a w : Nat) (f : Nat → Int64) (ho : HA D H a (eO 1 [.ref w])) (hw : HA D H w (eL (g 2) 64 f)) (x wx : Nat) (fx : Nat → Int64) (hox : HA D H x (eO 1 [.ref wx])) (hwx : HA D H wx (eL (g 2) 64 fx)) (bb : Bool) (hbb : bb = true ↔ ∀ j, j < 64 → f j = fx j) : Met l yX1_isSameAs wsX1_isSameAs ({ frames := 0, cells := 0, slots := 0, locals := 0 } : Room) (kPc D g [.ref a, .ref x] H) (kX (.int (b2i bb)) H) 0 0 kN := by
  refine Met.ofW (cc := cX1_isSameAs) (maxL := 3) (ret := (some .boolean)) (by decide) rfl ?_
  intro p e s m args below meth c s₁ B hml hv
  obtain ⟨rfl, hH, hK⟩ := hv
  have hx := B.exec
  have hb := B.bytes
  have hr := B.returns
  have hts := atoms_spec (ws := wsX1_isSameAs) B.pre
  have hown : s.vm.findClass RX1 = some m.cls := findClass_of_methodNamed B.named
  have hlocks := B.notSynchronized
  rw [hH]
  have hl := lv_entry ([.ref a, .ref x]) (n := 3) (Nat.le_of_ble_eq_true rfl)
  rw [lg_entry_eq]
  generalize (lg_sl ([.ref a, .ref x]) ++ List.replicate (3 - (lg_sl ([.ref a, .ref x])).length) Slot.unset).toArray = ls at hl ⊢
  have hl : lv_has ls 3 [(0, .ref a), (1, .ref x)] := hl
  refine lv_iconst (v := nI 0) hx hb dX1_isSameAs_0 (by decide +kernel) ?_
  refine lv_istore_n (lv' := [(2, .int (nI 0)), (0, .ref a), (1, .ref x)]) hx hb dX1_isSameAs_1 rfl hl (by decide) rfl (fun ls hl => ?_)
  have loop : ∀ (n i : Nat), 64 < i + n → i ≤ 64 → (∀ j, j < i → f j = fx j) → ∀ ls, lv_has ls 3 [(2, .int (nI i)), (0, .ref a), (1, .ref x)] → W p l e (headSpec wsX1_isSameAs ({ frames := 0, cells := 0, slots := 0, locals := 0 } : Room)).room s m ([.ref a, .ref x] : List Value).toArray below meth c H [] 0 0 (MQ below (kX (.int (b2i bb)) H) ([.ref a, .ref x] : List Value).toArray s 0 0 kN) (F0 m 2 ls []) := by
    intro n
    induction n with
    | zero => intro i h0 h1; omega
    | succ n ih =>
      intro i hn hi hv ls hl
      refine lv_iload_n hx hb dX1_isSameAs_2 rfl (lv_at hl 0 rfl) ?_
      refine lv_bipush (v := nI 64) hx hb dX1_isSameAs_3 (by decide +kernel) ?_
      refine n_icmp_ge (tgt := 32) hx hb dX1_isSameAs_5 (by decide) (by omega) (by omega) (fun c_39 => ?_) (fun c_39 => ?_)
      · skip
        refine lv_iconst (v := b2i true) hx hb dX1_isSameAs_32 (by decide +kernel) ?_
        exact r_zX hx hb hr (by rw [hbb.mpr (fun j hj => hv j (by omega))]) dX1_isSameAs_33 hlocks
      · skip
        refine lv_aload_n hx hb dX1_isSameAs_8 rfl (lv_at hl 1 rfl) ?_
        refine k_get (ci := 1) (C := RX1) (T := TX1) (N := 1) (v := .ref w) hx hb hts (by decide +kernel) hown hK ho rfl 0 (by decide) rfl (hts (.fieldLink RX1 9 RX1 "words" "[J") (by decide +kernel)) rfl dX1_isSameAs_9 ?_
        refine lv_iload_n hx hb dX1_isSameAs_12 rfl (lv_at hl 0 rfl) ?_
        refine k_lald hx hb hK hw (i) rfl (by omega) (by omega) dX1_isSameAs_13 ?_
        refine lv_aload_n hx hb dX1_isSameAs_14 rfl (lv_at hl 2 rfl) ?_
        refine k_get (ci := 1) (C := RX1) (T := TX1) (N := 1) (v := .ref wx) hx hb hts (by decide +kernel) hown hK hox rfl 0 (by decide) rfl (hts (.fieldLink RX1 9 RX1 "words" "[J") (by decide +kernel)) rfl dX1_isSameAs_15 ?_
        refine lv_iload_n hx hb dX1_isSameAs_18 rfl (lv_at hl 0 rfl) ?_
        refine k_lald hx hb hK hwx (i) rfl (by omega) (by omega) dX1_isSameAs_19 ?_
        refine W.lcmp hx hb dX1_isSameAs_20 ?_
        refine lv_if_eq (tgt := 26) hx hb dX1_isSameAs_21 (by decide) (fun c_40 => ?_) (fun c_40 => ?_)
        · skip
          refine lv_iinc (v := nI (i + 1)) (lv' := [(2, .int (nI (i + 1))), (0, .ref a), (1, .ref x)]) hx hb dX1_isSameAs_26 hl (k := 0) rfl (nI_add (i) 1) (by decide) rfl (fun ls hl => ?_)
          refine lv_goto (tgt := 2) hx hb dX1_isSameAs_29 (by decide) ?_
          refine ih (i + 1) (by omega) (by omega) ?_ ls (lv_sub hl [0, 1, 2] rfl)
          intro j hj
          rcases Nat.lt_or_ge j i with q | q
          · exact hv j q
          · rw [show j = i by omega]; exact (lg_cmp_eq _ _).mp c_40
        · skip
          refine lv_iconst (v := b2i false) hx hb dX1_isSameAs_24 (by decide +kernel) ?_
          exact r_zX hx hb hr (by rw [ts_nt (fun q => c_40 ((lg_cmp_eq _ _).mpr (hbb.mp q i (by omega))))]) dX1_isSameAs_25 hlocks
  exact loop 65 0 (by omega) (by omega) (fun j h => by omega) ls (lv_sub hl [0, 1, 2] rfl)
set_option maxHeartbeats 4000000 in
set_option maxRecDepth 100000 in
theorem c_X1_hasAllRemoved (l : Launch) (D : va_G) (g : Nat → ClassId) (H : Heap) (a w : Nat) (f : Nat → Int64) (ho : HA D H a (eO 1 [.ref w])) (hw : HA D H w (eL (g 2) 64 f)) (x wx : Nat) (fx : Nat → Int64) (hox : HA D H x (eO 1 [.ref wx])) (hwx : HA D H wx (eL (g 2) 64 fx)) (y wy : Nat) (fy : Nat → Int64) (hoy : HA D H y (eO 1 [.ref wy])) (hwy : HA D H wy (eL (g 2) 64 fy)) (bb : Bool) (hbb : bb = true ↔ ∀ j, j < 64 → ((fx j) &&& ((fy j) ^^^ (-1))) &&& ((f j) ^^^ (-1)) = 0) : Met l yX1_hasAllRemoved wsX1_hasAllRemoved ({ frames := 0, cells := 0, slots := 0, locals := 0 } : Room) (kPc D g [.ref a, .ref x, .ref y] H) (kX (.int (b2i bb)) H) 0 0 kN := by
  refine Met.ofW (cc := cX1_hasAllRemoved) (maxL := 6) (ret := (some .boolean)) (by decide) rfl ?_
  intro p e s m args below meth c s₁ B hml hv
  obtain ⟨rfl, hH, hK⟩ := hv
  have hx := B.exec
  have hb := B.bytes
  have hr := B.returns
  have hts := atoms_spec (ws := wsX1_hasAllRemoved) B.pre
  have hown : s.vm.findClass RX1 = some m.cls := findClass_of_methodNamed B.named
  have hlocks := B.notSynchronized
  rw [hH]
  have hl := lv_entry ([.ref a, .ref x, .ref y]) (n := 6) (Nat.le_of_ble_eq_true rfl)
  rw [lg_entry_eq]
  generalize (lg_sl ([.ref a, .ref x, .ref y]) ++ List.replicate (6 - (lg_sl ([.ref a, .ref x, .ref y])).length) Slot.unset).toArray = ls at hl ⊢
  have hl : lv_has ls 6 [(0, .ref a), (1, .ref x), (2, .ref y)] := hl
  refine lv_iconst (v := nI 0) hx hb dX1_hasAllRemoved_0 (by decide +kernel) ?_
  refine lv_istore_n (lv' := [(3, .int (nI 0)), (0, .ref a), (1, .ref x), (2, .ref y)]) hx hb dX1_hasAllRemoved_1 rfl hl (by decide) rfl (fun ls hl => ?_)
  have loop : ∀ (n i : Nat), 64 < i + n → i ≤ 64 → (∀ j, j < i → ((fx j) &&& ((fy j) ^^^ (-1))) &&& ((f j) ^^^ (-1)) = 0) → ∀ ls, lv_has ls 6 [(3, .int (nI i)), (0, .ref a), (1, .ref x), (2, .ref y)] → W p l e (headSpec wsX1_hasAllRemoved ({ frames := 0, cells := 0, slots := 0, locals := 0 } : Room)).room s m ([.ref a, .ref x, .ref y] : List Value).toArray below meth c H [] 0 0 (MQ below (kX (.int (b2i bb)) H) ([.ref a, .ref x, .ref y] : List Value).toArray s 0 0 kN) (F0 m 2 ls []) := by
    intro n
    induction n with
    | zero => intro i h0 h1; omega
    | succ n ih =>
      intro i hn hi hv ls hl
      refine lv_iload_n hx hb dX1_hasAllRemoved_2 rfl (lv_at hl 0 rfl) ?_
      refine lv_bipush (v := nI 64) hx hb dX1_hasAllRemoved_3 (by decide +kernel) ?_
      refine n_icmp_ge (tgt := 53) hx hb dX1_hasAllRemoved_5 (by decide) (by omega) (by omega) (fun c_41 => ?_) (fun c_41 => ?_)
      · skip
        refine lv_iconst (v := b2i true) hx hb dX1_hasAllRemoved_53 (by decide +kernel) ?_
        exact r_zX hx hb hr (by rw [hbb.mpr (fun j hj => hv j (by omega))]) dX1_hasAllRemoved_54 hlocks
      · skip
        refine lv_aload_n hx hb dX1_hasAllRemoved_8 rfl (lv_at hl 2 rfl) ?_
        refine k_get (ci := 1) (C := RX1) (T := TX1) (N := 1) (v := .ref wx) hx hb hts (by decide +kernel) hown hK hox rfl 0 (by decide) rfl (hts (.fieldLink RX1 9 RX1 "words" "[J") (by decide +kernel)) rfl dX1_hasAllRemoved_9 ?_
        refine lv_iload_n hx hb dX1_hasAllRemoved_12 rfl (lv_at hl 0 rfl) ?_
        refine k_lald hx hb hK hwx (i) rfl (by omega) (by omega) dX1_hasAllRemoved_13 ?_
        refine lv_aload_n hx hb dX1_hasAllRemoved_14 rfl (lv_at hl 3 rfl) ?_
        refine k_get (ci := 1) (C := RX1) (T := TX1) (N := 1) (v := .ref wy) hx hb hts (by decide +kernel) hown hK hoy rfl 0 (by decide) rfl (hts (.fieldLink RX1 9 RX1 "words" "[J") (by decide +kernel)) rfl dX1_hasAllRemoved_15 ?_
        refine lv_iload_n hx hb dX1_hasAllRemoved_18 rfl (lv_at hl 0 rfl) ?_
        refine k_lald hx hb hK hwy (i) rfl (by omega) (by omega) dX1_hasAllRemoved_19 ?_
        refine lv_ldc2 (v := (-1)) hx hb hown (hts (.constantLong RX1 19 (-1)) (by decide +kernel)) dX1_hasAllRemoved_20 ?_
        refine lv_lxor hx hb dX1_hasAllRemoved_23 ?_
        refine lv_land hx hb dX1_hasAllRemoved_24 ?_
        refine lv_lstore (lv' := [(4, .long ((fx (i)) &&& ((fy (i)) ^^^ ((-1))))), (3, .int (nI i)), (0, .ref a), (1, .ref x), (2, .ref y)]) hx hb dX1_hasAllRemoved_25 hl (by decide) rfl (fun ls hl => ?_)
        refine lv_lload hx hb dX1_hasAllRemoved_27 (lv_at hl 0 rfl) ?_
        refine lv_aload_n hx hb dX1_hasAllRemoved_29 rfl (lv_at hl 2 rfl) ?_
        refine k_get (ci := 1) (C := RX1) (T := TX1) (N := 1) (v := .ref w) hx hb hts (by decide +kernel) hown hK ho rfl 0 (by decide) rfl (hts (.fieldLink RX1 9 RX1 "words" "[J") (by decide +kernel)) rfl dX1_hasAllRemoved_30 ?_
        refine lv_iload_n hx hb dX1_hasAllRemoved_33 rfl (lv_at hl 1 rfl) ?_
        refine k_lald hx hb hK hw (i) rfl (by omega) (by omega) dX1_hasAllRemoved_34 ?_
        refine lv_ldc2 (v := (-1)) hx hb hown (hts (.constantLong RX1 19 (-1)) (by decide +kernel)) dX1_hasAllRemoved_35 ?_
        refine lv_lxor hx hb dX1_hasAllRemoved_38 ?_
        refine lv_land hx hb dX1_hasAllRemoved_39 ?_
        refine lv_lconst (v := 0) hx hb dX1_hasAllRemoved_40 (by decide +kernel) ?_
        refine W.lcmp hx hb dX1_hasAllRemoved_41 ?_
        refine lv_if_eq (tgt := 47) hx hb dX1_hasAllRemoved_42 (by decide) (fun c_42 => ?_) (fun c_42 => ?_)
        · skip
          refine lv_iinc (v := nI (i + 1)) (lv' := [(3, .int (nI (i + 1))), (4, .long ((fx (i)) &&& ((fy (i)) ^^^ ((-1))))), (0, .ref a), (1, .ref x), (2, .ref y)]) hx hb dX1_hasAllRemoved_47 hl (k := 1) rfl (nI_add (i) 1) (by decide) rfl (fun ls hl => ?_)
          refine lv_goto (tgt := 2) hx hb dX1_hasAllRemoved_50 (by decide) ?_
          refine ih (i + 1) (by omega) (by omega) ?_ ls (lv_sub hl [0, 2, 3, 4] rfl)
          intro j hj
          rcases Nat.lt_or_ge j i with q | q
          · exact hv j q
          · rw [show j = i by omega]; exact (lg_cmp_eq _ _).mp c_42
        · skip
          refine lv_iconst (v := b2i false) hx hb dX1_hasAllRemoved_45 (by decide +kernel) ?_
          exact r_zX hx hb hr (by rw [ts_nt (fun q => c_42 ((lg_cmp_eq _ _).mpr (hbb.mp q i (by omega))))]) dX1_hasAllRemoved_46 hlocks
  exact loop 65 0 (by omega) (by omega) (fun j h => by omega) ls (lv_sub hl [0, 1, 2, 3] rfl)
set_option maxHeartbeats 4000000 in
set_option maxRecDepth 100000 in
theorem c_X1_renamed (l : Launch) (D : va_G) (g : Nat → ClassId) (H : Heap) (t q o : Nat) (ht : t < 4096) (hq : q < 16) (ho : o < 16) : Met l yX1_renamed wsX1_renamed ({ frames := 1, cells := 0, slots := 0, locals := 20 } : Room) (kPc D g [.int (nI t), .int (nI q), .int (nI o)] H) (kX (.int (nI (rnT t q o))) H) 0 0 kN := by
  refine Met.ofW (cc := cX1_renamed) (maxL := 6) (ret := (some .int)) (by decide) rfl ?_
  intro p e s m args below meth c s₁ B hml hv
  obtain ⟨rfl, hH, hK⟩ := hv
  have hx := B.exec
  have hb := B.bytes
  have hr := B.returns
  have hts := atoms_spec (ws := wsX1_renamed) B.pre
  have hown : s.vm.findClass RX1 = some m.cls := findClass_of_methodNamed B.named
  have hlocks := B.notSynchronized
  rw [hH]
  have hl := lv_entry ([.int (nI t), .int (nI q), .int (nI o)]) (n := 6) (Nat.le_of_ble_eq_true rfl)
  rw [lg_entry_eq]
  generalize (lg_sl ([.int (nI t), .int (nI q), .int (nI o)]) ++ List.replicate (6 - (lg_sl ([.int (nI t), .int (nI q), .int (nI o)])).length) Slot.unset).toArray = ls at hl ⊢
  have hl : lv_has ls 6 [(0, .int (nI t)), (1, .int (nI q)), (2, .int (nI o))] := hl
  refine lv_iload_n hx hb dX1_renamed_0 rfl (lv_at hl 0 rfl) ?_
  refine k_callX (va_runS (As := [.int (nI t)]) (rest := []) ⟨hx, hb, hml, hown, hts⟩ (c_X1_subject l D g H t ht) (va_cwS 1 hts gX1_renamed_X1_subject rfl rfl rfl (by decide +kernel) ⟨Nat.le_of_ble_eq_true rfl, Nat.le_of_ble_eq_true rfl⟩) ⟨kPc_blind, fun U hU hW => kPc_at hK hU hW⟩ rfl rfl hl.1 rfl (lv_room (Nat.le_of_ble_eq_true rfl)) dX1_renamed_1 ⟨Nat.le_of_ble_eq_true rfl, Nat.le_of_ble_eq_true rfl⟩) ?_
  refine lv_iload_n hx hb dX1_renamed_4 rfl (lv_at hl 1 rfl) ?_
  refine n_icmp_ne (tgt := 12) hx hb dX1_renamed_5 (by decide) (by omega) (by omega) (fun c_43 => ?_) (fun c_43 => ?_)
  · skip
    refine lv_iload_n hx hb dX1_renamed_12 rfl (lv_at hl 0 rfl) ?_
    refine k_callX (va_runS (As := [.int (nI t)]) (rest := []) ⟨hx, hb, hml, hown, hts⟩ (c_X1_subject l D g H t ht) (va_cwS 1 hts gX1_renamed_X1_subject rfl rfl rfl (by decide +kernel) ⟨Nat.le_of_ble_eq_true rfl, Nat.le_of_ble_eq_true rfl⟩) ⟨kPc_blind, fun U hU hW => kPc_at hK hU hW⟩ rfl rfl hl.1 rfl (lv_room (Nat.le_of_ble_eq_true rfl)) dX1_renamed_13 ⟨Nat.le_of_ble_eq_true rfl, Nat.le_of_ble_eq_true rfl⟩) ?_
    refine lv_istore_n (lv' := [(3, .int (nI (t / 256))), (0, .int (nI t)), (1, .int (nI q)), (2, .int (nI o))]) hx hb dX1_renamed_16 rfl hl (by decide) rfl (fun ls hl => ?_)
    refine lv_iload_n hx hb dX1_renamed_17 rfl (lv_at hl 1 rfl) ?_
    refine k_callX (va_runS (As := [.int (nI t)]) (rest := []) ⟨hx, hb, hml, hown, hts⟩ (c_X1_property l D g H t ht) (va_cwS 1 hts gX1_renamed_X1_property rfl rfl rfl (by decide +kernel) ⟨Nat.le_of_ble_eq_true rfl, Nat.le_of_ble_eq_true rfl⟩) ⟨kPc_blind, fun U hU hW => kPc_at hK hU hW⟩ rfl rfl hl.1 rfl (lv_room (Nat.le_of_ble_eq_true rfl)) dX1_renamed_18 ⟨Nat.le_of_ble_eq_true rfl, Nat.le_of_ble_eq_true rfl⟩) ?_
    refine lv_iload_n hx hb dX1_renamed_21 rfl (lv_at hl 2 rfl) ?_
    refine n_icmp_ne (tgt := 29) hx hb dX1_renamed_22 (by decide) (by omega) (by omega) (fun c_44 => ?_) (fun c_44 => ?_)
    · skip
      refine lv_iload_n hx hb dX1_renamed_29 rfl (lv_at hl 1 rfl) ?_
      refine k_callX (va_runS (As := [.int (nI t)]) (rest := []) ⟨hx, hb, hml, hown, hts⟩ (c_X1_property l D g H t ht) (va_cwS 1 hts gX1_renamed_X1_property rfl rfl rfl (by decide +kernel) ⟨Nat.le_of_ble_eq_true rfl, Nat.le_of_ble_eq_true rfl⟩) ⟨kPc_blind, fun U hU hW => kPc_at hK hU hW⟩ rfl rfl hl.1 rfl (lv_room (Nat.le_of_ble_eq_true rfl)) dX1_renamed_30 ⟨Nat.le_of_ble_eq_true rfl, Nat.le_of_ble_eq_true rfl⟩) ?_
      refine lv_istore (lv' := [(4, .int (nI (t / 16 % 16))), (3, .int (nI (t / 256))), (0, .int (nI t)), (1, .int (nI q)), (2, .int (nI o))]) hx hb dX1_renamed_33 hl (by decide) rfl (fun ls hl => ?_)
      refine lv_iload_n hx hb dX1_renamed_35 rfl (lv_at hl 2 rfl) ?_
      refine k_callX (va_runS (As := [.int (nI t)]) (rest := []) ⟨hx, hb, hml, hown, hts⟩ (c_X1_object l D g H t ht) (va_cwS 1 hts gX1_renamed_X1_object rfl rfl rfl (by decide +kernel) ⟨Nat.le_of_ble_eq_true rfl, Nat.le_of_ble_eq_true rfl⟩) ⟨kPc_blind, fun U hU hW => kPc_at hK hU hW⟩ rfl rfl hl.1 rfl (lv_room (Nat.le_of_ble_eq_true rfl)) dX1_renamed_36 ⟨Nat.le_of_ble_eq_true rfl, Nat.le_of_ble_eq_true rfl⟩) ?_
      refine lv_iload_n hx hb dX1_renamed_39 rfl (lv_at hl 3 rfl) ?_
      refine n_icmp_ne (tgt := 47) hx hb dX1_renamed_40 (by decide) (by omega) (by omega) (fun c_45 => ?_) (fun c_45 => ?_)
      · skip
        refine lv_iload_n hx hb dX1_renamed_47 rfl (lv_at hl 2 rfl) ?_
        refine k_callX (va_runS (As := [.int (nI t)]) (rest := []) ⟨hx, hb, hml, hown, hts⟩ (c_X1_object l D g H t ht) (va_cwS 1 hts gX1_renamed_X1_object rfl rfl rfl (by decide +kernel) ⟨Nat.le_of_ble_eq_true rfl, Nat.le_of_ble_eq_true rfl⟩) ⟨kPc_blind, fun U hU hW => kPc_at hK hU hW⟩ rfl rfl hl.1 rfl (lv_room (Nat.le_of_ble_eq_true rfl)) dX1_renamed_48 ⟨Nat.le_of_ble_eq_true rfl, Nat.le_of_ble_eq_true rfl⟩) ?_
        refine lv_istore (lv' := [(5, .int (nI (t % 16))), (4, .int (nI (t / 16 % 16))), (3, .int (nI (t / 256))), (0, .int (nI t)), (1, .int (nI q)), (2, .int (nI o))]) hx hb dX1_renamed_51 hl (by decide) rfl (fun ls hl => ?_)
        refine lv_sipush (v := nI 256) hx hb dX1_renamed_53 (by decide +kernel) ?_
        refine lv_iload_n hx hb dX1_renamed_56 rfl (lv_at hl 2 rfl) ?_
        refine lv_imul hx hb dX1_renamed_57 ?_
        refine lv_topi (nm_r (show (nI 256) * (nI (t / 256)) = nI (256 * (t / 256)) from pk_mul _ _) ?_)
        refine lv_bipush (v := nI 16) hx hb dX1_renamed_58 (by decide +kernel) ?_
        refine lv_iload hx hb dX1_renamed_60 (lv_at hl 1 rfl) ?_
        refine lv_imul hx hb dX1_renamed_62 ?_
        refine lv_topi (nm_r (show (nI 16) * (nI (t / 16 % 16)) = nI (16 * (t / 16 % 16)) from pk_mul _ _) ?_)
        refine lv_iadd hx hb dX1_renamed_63 ?_
        refine lv_topi (nm_r (show (nI (256 * (t / 256))) + (nI (16 * (t / 16 % 16))) = nI (256 * (t / 256) + 16 * (t / 16 % 16)) from nI_add _ _) ?_)
        refine lv_iload hx hb dX1_renamed_64 (lv_at hl 0 rfl) ?_
        refine lv_iadd hx hb dX1_renamed_66 ?_
        refine lv_topi (nm_r (show (nI (256 * (t / 256) + 16 * (t / 16 % 16))) + (nI (t % 16)) = nI (256 * (t / 256) + 16 * (t / 16 % 16) + t % 16) from nI_add _ _) ?_)
        exact r_iX hx hb hr (by unfold rnT; rw [rn_n c_43, rn_n c_44, rn_n c_45]) dX1_renamed_67 hlocks
      · skip
        refine lv_iload_n hx hb dX1_renamed_43 rfl (lv_at hl 4 rfl) ?_
        refine lv_goto (tgt := 51) hx hb dX1_renamed_44 (by decide) ?_
        refine lv_istore (lv' := [(5, .int (nI o)), (4, .int (nI (t / 16 % 16))), (3, .int (nI (t / 256))), (0, .int (nI t)), (1, .int (nI q)), (2, .int (nI o))]) hx hb dX1_renamed_51 hl (by decide) rfl (fun ls hl => ?_)
        refine lv_sipush (v := nI 256) hx hb dX1_renamed_53 (by decide +kernel) ?_
        refine lv_iload_n hx hb dX1_renamed_56 rfl (lv_at hl 2 rfl) ?_
        refine lv_imul hx hb dX1_renamed_57 ?_
        refine lv_topi (nm_r (show (nI 256) * (nI (t / 256)) = nI (256 * (t / 256)) from pk_mul _ _) ?_)
        refine lv_bipush (v := nI 16) hx hb dX1_renamed_58 (by decide +kernel) ?_
        refine lv_iload hx hb dX1_renamed_60 (lv_at hl 1 rfl) ?_
        refine lv_imul hx hb dX1_renamed_62 ?_
        refine lv_topi (nm_r (show (nI 16) * (nI (t / 16 % 16)) = nI (16 * (t / 16 % 16)) from pk_mul _ _) ?_)
        refine lv_iadd hx hb dX1_renamed_63 ?_
        refine lv_topi (nm_r (show (nI (256 * (t / 256))) + (nI (16 * (t / 16 % 16))) = nI (256 * (t / 256) + 16 * (t / 16 % 16)) from nI_add _ _) ?_)
        refine lv_iload hx hb dX1_renamed_64 (lv_at hl 0 rfl) ?_
        refine lv_iadd hx hb dX1_renamed_66 ?_
        refine lv_topi (nm_r (show (nI (256 * (t / 256) + 16 * (t / 16 % 16))) + (nI o) = nI (256 * (t / 256) + 16 * (t / 16 % 16) + o) from nI_add _ _) ?_)
        exact r_iX hx hb hr (by unfold rnT; rw [rn_n c_43, rn_n c_44, rn_y c_45]) dX1_renamed_67 hlocks
    · skip
      refine lv_iload_n hx hb dX1_renamed_25 rfl (lv_at hl 3 rfl) ?_
      refine lv_goto (tgt := 33) hx hb dX1_renamed_26 (by decide) ?_
      refine lv_istore (lv' := [(4, .int (nI o)), (3, .int (nI (t / 256))), (0, .int (nI t)), (1, .int (nI q)), (2, .int (nI o))]) hx hb dX1_renamed_33 hl (by decide) rfl (fun ls hl => ?_)
      refine lv_iload_n hx hb dX1_renamed_35 rfl (lv_at hl 2 rfl) ?_
      refine k_callX (va_runS (As := [.int (nI t)]) (rest := []) ⟨hx, hb, hml, hown, hts⟩ (c_X1_object l D g H t ht) (va_cwS 1 hts gX1_renamed_X1_object rfl rfl rfl (by decide +kernel) ⟨Nat.le_of_ble_eq_true rfl, Nat.le_of_ble_eq_true rfl⟩) ⟨kPc_blind, fun U hU hW => kPc_at hK hU hW⟩ rfl rfl hl.1 rfl (lv_room (Nat.le_of_ble_eq_true rfl)) dX1_renamed_36 ⟨Nat.le_of_ble_eq_true rfl, Nat.le_of_ble_eq_true rfl⟩) ?_
      refine lv_iload_n hx hb dX1_renamed_39 rfl (lv_at hl 3 rfl) ?_
      refine n_icmp_ne (tgt := 47) hx hb dX1_renamed_40 (by decide) (by omega) (by omega) (fun c_46 => ?_) (fun c_46 => ?_)
      · skip
        refine lv_iload_n hx hb dX1_renamed_47 rfl (lv_at hl 2 rfl) ?_
        refine k_callX (va_runS (As := [.int (nI t)]) (rest := []) ⟨hx, hb, hml, hown, hts⟩ (c_X1_object l D g H t ht) (va_cwS 1 hts gX1_renamed_X1_object rfl rfl rfl (by decide +kernel) ⟨Nat.le_of_ble_eq_true rfl, Nat.le_of_ble_eq_true rfl⟩) ⟨kPc_blind, fun U hU hW => kPc_at hK hU hW⟩ rfl rfl hl.1 rfl (lv_room (Nat.le_of_ble_eq_true rfl)) dX1_renamed_48 ⟨Nat.le_of_ble_eq_true rfl, Nat.le_of_ble_eq_true rfl⟩) ?_
        refine lv_istore (lv' := [(5, .int (nI (t % 16))), (4, .int (nI o)), (3, .int (nI (t / 256))), (0, .int (nI t)), (1, .int (nI q)), (2, .int (nI o))]) hx hb dX1_renamed_51 hl (by decide) rfl (fun ls hl => ?_)
        refine lv_sipush (v := nI 256) hx hb dX1_renamed_53 (by decide +kernel) ?_
        refine lv_iload_n hx hb dX1_renamed_56 rfl (lv_at hl 2 rfl) ?_
        refine lv_imul hx hb dX1_renamed_57 ?_
        refine lv_topi (nm_r (show (nI 256) * (nI (t / 256)) = nI (256 * (t / 256)) from pk_mul _ _) ?_)
        refine lv_bipush (v := nI 16) hx hb dX1_renamed_58 (by decide +kernel) ?_
        refine lv_iload hx hb dX1_renamed_60 (lv_at hl 1 rfl) ?_
        refine lv_imul hx hb dX1_renamed_62 ?_
        refine lv_topi (nm_r (show (nI 16) * (nI o) = nI (16 * (o)) from pk_mul _ _) ?_)
        refine lv_iadd hx hb dX1_renamed_63 ?_
        refine lv_topi (nm_r (show (nI (256 * (t / 256))) + (nI (16 * (o))) = nI (256 * (t / 256) + 16 * (o)) from nI_add _ _) ?_)
        refine lv_iload hx hb dX1_renamed_64 (lv_at hl 0 rfl) ?_
        refine lv_iadd hx hb dX1_renamed_66 ?_
        refine lv_topi (nm_r (show (nI (256 * (t / 256) + 16 * (o))) + (nI (t % 16)) = nI (256 * (t / 256) + 16 * (o) + t % 16) from nI_add _ _) ?_)
        exact r_iX hx hb hr (by unfold rnT; rw [rn_n c_43, rn_y c_44, rn_n c_46]) dX1_renamed_67 hlocks
      · skip
        refine lv_iload_n hx hb dX1_renamed_43 rfl (lv_at hl 4 rfl) ?_
        refine lv_goto (tgt := 51) hx hb dX1_renamed_44 (by decide) ?_
        refine lv_istore (lv' := [(5, .int (nI o)), (4, .int (nI o)), (3, .int (nI (t / 256))), (0, .int (nI t)), (1, .int (nI q)), (2, .int (nI o))]) hx hb dX1_renamed_51 hl (by decide) rfl (fun ls hl => ?_)
        refine lv_sipush (v := nI 256) hx hb dX1_renamed_53 (by decide +kernel) ?_
        refine lv_iload_n hx hb dX1_renamed_56 rfl (lv_at hl 2 rfl) ?_
        refine lv_imul hx hb dX1_renamed_57 ?_
        refine lv_topi (nm_r (show (nI 256) * (nI (t / 256)) = nI (256 * (t / 256)) from pk_mul _ _) ?_)
        refine lv_bipush (v := nI 16) hx hb dX1_renamed_58 (by decide +kernel) ?_
        refine lv_iload hx hb dX1_renamed_60 (lv_at hl 1 rfl) ?_
        refine lv_imul hx hb dX1_renamed_62 ?_
        refine lv_topi (nm_r (show (nI 16) * (nI o) = nI (16 * (o)) from pk_mul _ _) ?_)
        refine lv_iadd hx hb dX1_renamed_63 ?_
        refine lv_topi (nm_r (show (nI (256 * (t / 256))) + (nI (16 * (o))) = nI (256 * (t / 256) + 16 * (o)) from nI_add _ _) ?_)
        refine lv_iload hx hb dX1_renamed_64 (lv_at hl 0 rfl) ?_
        refine lv_iadd hx hb dX1_renamed_66 ?_
        refine lv_topi (nm_r (show (nI (256 * (t / 256) + 16 * (o))) + (nI o) = nI (256 * (t / 256) + 16 * (o) + o) from nI_add _ _) ?_)
        exact r_iX hx hb hr (by unfold rnT; rw [rn_n c_43, rn_y c_44, rn_y c_46]) dX1_renamed_67 hlocks
  · skip
    refine lv_iload_n hx hb dX1_renamed_8 rfl (lv_at hl 2 rfl) ?_
    refine lv_goto (tgt := 16) hx hb dX1_renamed_9 (by decide) ?_
    refine lv_istore_n (lv' := [(3, .int (nI o)), (0, .int (nI t)), (1, .int (nI q)), (2, .int (nI o))]) hx hb dX1_renamed_16 rfl hl (by decide) rfl (fun ls hl => ?_)
    refine lv_iload_n hx hb dX1_renamed_17 rfl (lv_at hl 1 rfl) ?_
    refine k_callX (va_runS (As := [.int (nI t)]) (rest := []) ⟨hx, hb, hml, hown, hts⟩ (c_X1_property l D g H t ht) (va_cwS 1 hts gX1_renamed_X1_property rfl rfl rfl (by decide +kernel) ⟨Nat.le_of_ble_eq_true rfl, Nat.le_of_ble_eq_true rfl⟩) ⟨kPc_blind, fun U hU hW => kPc_at hK hU hW⟩ rfl rfl hl.1 rfl (lv_room (Nat.le_of_ble_eq_true rfl)) dX1_renamed_18 ⟨Nat.le_of_ble_eq_true rfl, Nat.le_of_ble_eq_true rfl⟩) ?_
    refine lv_iload_n hx hb dX1_renamed_21 rfl (lv_at hl 2 rfl) ?_
    refine n_icmp_ne (tgt := 29) hx hb dX1_renamed_22 (by decide) (by omega) (by omega) (fun c_47 => ?_) (fun c_47 => ?_)
    · skip
      refine lv_iload_n hx hb dX1_renamed_29 rfl (lv_at hl 1 rfl) ?_
      refine k_callX (va_runS (As := [.int (nI t)]) (rest := []) ⟨hx, hb, hml, hown, hts⟩ (c_X1_property l D g H t ht) (va_cwS 1 hts gX1_renamed_X1_property rfl rfl rfl (by decide +kernel) ⟨Nat.le_of_ble_eq_true rfl, Nat.le_of_ble_eq_true rfl⟩) ⟨kPc_blind, fun U hU hW => kPc_at hK hU hW⟩ rfl rfl hl.1 rfl (lv_room (Nat.le_of_ble_eq_true rfl)) dX1_renamed_30 ⟨Nat.le_of_ble_eq_true rfl, Nat.le_of_ble_eq_true rfl⟩) ?_
      refine lv_istore (lv' := [(4, .int (nI (t / 16 % 16))), (3, .int (nI o)), (0, .int (nI t)), (1, .int (nI q)), (2, .int (nI o))]) hx hb dX1_renamed_33 hl (by decide) rfl (fun ls hl => ?_)
      refine lv_iload_n hx hb dX1_renamed_35 rfl (lv_at hl 2 rfl) ?_
      refine k_callX (va_runS (As := [.int (nI t)]) (rest := []) ⟨hx, hb, hml, hown, hts⟩ (c_X1_object l D g H t ht) (va_cwS 1 hts gX1_renamed_X1_object rfl rfl rfl (by decide +kernel) ⟨Nat.le_of_ble_eq_true rfl, Nat.le_of_ble_eq_true rfl⟩) ⟨kPc_blind, fun U hU hW => kPc_at hK hU hW⟩ rfl rfl hl.1 rfl (lv_room (Nat.le_of_ble_eq_true rfl)) dX1_renamed_36 ⟨Nat.le_of_ble_eq_true rfl, Nat.le_of_ble_eq_true rfl⟩) ?_
      refine lv_iload_n hx hb dX1_renamed_39 rfl (lv_at hl 3 rfl) ?_
      refine n_icmp_ne (tgt := 47) hx hb dX1_renamed_40 (by decide) (by omega) (by omega) (fun c_48 => ?_) (fun c_48 => ?_)
      · skip
        refine lv_iload_n hx hb dX1_renamed_47 rfl (lv_at hl 2 rfl) ?_
        refine k_callX (va_runS (As := [.int (nI t)]) (rest := []) ⟨hx, hb, hml, hown, hts⟩ (c_X1_object l D g H t ht) (va_cwS 1 hts gX1_renamed_X1_object rfl rfl rfl (by decide +kernel) ⟨Nat.le_of_ble_eq_true rfl, Nat.le_of_ble_eq_true rfl⟩) ⟨kPc_blind, fun U hU hW => kPc_at hK hU hW⟩ rfl rfl hl.1 rfl (lv_room (Nat.le_of_ble_eq_true rfl)) dX1_renamed_48 ⟨Nat.le_of_ble_eq_true rfl, Nat.le_of_ble_eq_true rfl⟩) ?_
        refine lv_istore (lv' := [(5, .int (nI (t % 16))), (4, .int (nI (t / 16 % 16))), (3, .int (nI o)), (0, .int (nI t)), (1, .int (nI q)), (2, .int (nI o))]) hx hb dX1_renamed_51 hl (by decide) rfl (fun ls hl => ?_)
        refine lv_sipush (v := nI 256) hx hb dX1_renamed_53 (by decide +kernel) ?_
        refine lv_iload_n hx hb dX1_renamed_56 rfl (lv_at hl 2 rfl) ?_
        refine lv_imul hx hb dX1_renamed_57 ?_
        refine lv_topi (nm_r (show (nI 256) * (nI o) = nI (256 * (o)) from pk_mul _ _) ?_)
        refine lv_bipush (v := nI 16) hx hb dX1_renamed_58 (by decide +kernel) ?_
        refine lv_iload hx hb dX1_renamed_60 (lv_at hl 1 rfl) ?_
        refine lv_imul hx hb dX1_renamed_62 ?_
        refine lv_topi (nm_r (show (nI 16) * (nI (t / 16 % 16)) = nI (16 * (t / 16 % 16)) from pk_mul _ _) ?_)
        refine lv_iadd hx hb dX1_renamed_63 ?_
        refine lv_topi (nm_r (show (nI (256 * (o))) + (nI (16 * (t / 16 % 16))) = nI (256 * (o) + 16 * (t / 16 % 16)) from nI_add _ _) ?_)
        refine lv_iload hx hb dX1_renamed_64 (lv_at hl 0 rfl) ?_
        refine lv_iadd hx hb dX1_renamed_66 ?_
        refine lv_topi (nm_r (show (nI (256 * (o) + 16 * (t / 16 % 16))) + (nI (t % 16)) = nI (256 * (o) + 16 * (t / 16 % 16) + t % 16) from nI_add _ _) ?_)
        exact r_iX hx hb hr (by unfold rnT; rw [rn_y c_43, rn_n c_47, rn_n c_48]) dX1_renamed_67 hlocks
      · skip
        refine lv_iload_n hx hb dX1_renamed_43 rfl (lv_at hl 4 rfl) ?_
        refine lv_goto (tgt := 51) hx hb dX1_renamed_44 (by decide) ?_
        refine lv_istore (lv' := [(5, .int (nI o)), (4, .int (nI (t / 16 % 16))), (3, .int (nI o)), (0, .int (nI t)), (1, .int (nI q)), (2, .int (nI o))]) hx hb dX1_renamed_51 hl (by decide) rfl (fun ls hl => ?_)
        refine lv_sipush (v := nI 256) hx hb dX1_renamed_53 (by decide +kernel) ?_
        refine lv_iload_n hx hb dX1_renamed_56 rfl (lv_at hl 2 rfl) ?_
        refine lv_imul hx hb dX1_renamed_57 ?_
        refine lv_topi (nm_r (show (nI 256) * (nI o) = nI (256 * (o)) from pk_mul _ _) ?_)
        refine lv_bipush (v := nI 16) hx hb dX1_renamed_58 (by decide +kernel) ?_
        refine lv_iload hx hb dX1_renamed_60 (lv_at hl 1 rfl) ?_
        refine lv_imul hx hb dX1_renamed_62 ?_
        refine lv_topi (nm_r (show (nI 16) * (nI (t / 16 % 16)) = nI (16 * (t / 16 % 16)) from pk_mul _ _) ?_)
        refine lv_iadd hx hb dX1_renamed_63 ?_
        refine lv_topi (nm_r (show (nI (256 * (o))) + (nI (16 * (t / 16 % 16))) = nI (256 * (o) + 16 * (t / 16 % 16)) from nI_add _ _) ?_)
        refine lv_iload hx hb dX1_renamed_64 (lv_at hl 0 rfl) ?_
        refine lv_iadd hx hb dX1_renamed_66 ?_
        refine lv_topi (nm_r (show (nI (256 * (o) + 16 * (t / 16 % 16))) + (nI o) = nI (256 * (o) + 16 * (t / 16 % 16) + o) from nI_add _ _) ?_)
        exact r_iX hx hb hr (by unfold rnT; rw [rn_y c_43, rn_n c_47, rn_y c_48]) dX1_renamed_67 hlocks
    · skip
      refine lv_iload_n hx hb dX1_renamed_25 rfl (lv_at hl 3 rfl) ?_
      refine lv_goto (tgt := 33) hx hb dX1_renamed_26 (by decide) ?_
      refine lv_istore (lv' := [(4, .int (nI o)), (3, .int (nI o)), (0, .int (nI t)), (1, .int (nI q)), (2, .int (nI o))]) hx hb dX1_renamed_33 hl (by decide) rfl (fun ls hl => ?_)
      refine lv_iload_n hx hb dX1_renamed_35 rfl (lv_at hl 2 rfl) ?_
      refine k_callX (va_runS (As := [.int (nI t)]) (rest := []) ⟨hx, hb, hml, hown, hts⟩ (c_X1_object l D g H t ht) (va_cwS 1 hts gX1_renamed_X1_object rfl rfl rfl (by decide +kernel) ⟨Nat.le_of_ble_eq_true rfl, Nat.le_of_ble_eq_true rfl⟩) ⟨kPc_blind, fun U hU hW => kPc_at hK hU hW⟩ rfl rfl hl.1 rfl (lv_room (Nat.le_of_ble_eq_true rfl)) dX1_renamed_36 ⟨Nat.le_of_ble_eq_true rfl, Nat.le_of_ble_eq_true rfl⟩) ?_
      refine lv_iload_n hx hb dX1_renamed_39 rfl (lv_at hl 3 rfl) ?_
      refine n_icmp_ne (tgt := 47) hx hb dX1_renamed_40 (by decide) (by omega) (by omega) (fun c_49 => ?_) (fun c_49 => ?_)
      · skip
        refine lv_iload_n hx hb dX1_renamed_47 rfl (lv_at hl 2 rfl) ?_
        refine k_callX (va_runS (As := [.int (nI t)]) (rest := []) ⟨hx, hb, hml, hown, hts⟩ (c_X1_object l D g H t ht) (va_cwS 1 hts gX1_renamed_X1_object rfl rfl rfl (by decide +kernel) ⟨Nat.le_of_ble_eq_true rfl, Nat.le_of_ble_eq_true rfl⟩) ⟨kPc_blind, fun U hU hW => kPc_at hK hU hW⟩ rfl rfl hl.1 rfl (lv_room (Nat.le_of_ble_eq_true rfl)) dX1_renamed_48 ⟨Nat.le_of_ble_eq_true rfl, Nat.le_of_ble_eq_true rfl⟩) ?_
        refine lv_istore (lv' := [(5, .int (nI (t % 16))), (4, .int (nI o)), (3, .int (nI o)), (0, .int (nI t)), (1, .int (nI q)), (2, .int (nI o))]) hx hb dX1_renamed_51 hl (by decide) rfl (fun ls hl => ?_)
        refine lv_sipush (v := nI 256) hx hb dX1_renamed_53 (by decide +kernel) ?_
        refine lv_iload_n hx hb dX1_renamed_56 rfl (lv_at hl 2 rfl) ?_
        refine lv_imul hx hb dX1_renamed_57 ?_
        refine lv_topi (nm_r (show (nI 256) * (nI o) = nI (256 * (o)) from pk_mul _ _) ?_)
        refine lv_bipush (v := nI 16) hx hb dX1_renamed_58 (by decide +kernel) ?_
        refine lv_iload hx hb dX1_renamed_60 (lv_at hl 1 rfl) ?_
        refine lv_imul hx hb dX1_renamed_62 ?_
        refine lv_topi (nm_r (show (nI 16) * (nI o) = nI (16 * (o)) from pk_mul _ _) ?_)
        refine lv_iadd hx hb dX1_renamed_63 ?_
        refine lv_topi (nm_r (show (nI (256 * (o))) + (nI (16 * (o))) = nI (256 * (o) + 16 * (o)) from nI_add _ _) ?_)
        refine lv_iload hx hb dX1_renamed_64 (lv_at hl 0 rfl) ?_
        refine lv_iadd hx hb dX1_renamed_66 ?_
        refine lv_topi (nm_r (show (nI (256 * (o) + 16 * (o))) + (nI (t % 16)) = nI (256 * (o) + 16 * (o) + t % 16) from nI_add _ _) ?_)
        exact r_iX hx hb hr (by unfold rnT; rw [rn_y c_43, rn_y c_47, rn_n c_49]) dX1_renamed_67 hlocks
      · skip
        refine lv_iload_n hx hb dX1_renamed_43 rfl (lv_at hl 4 rfl) ?_
        refine lv_goto (tgt := 51) hx hb dX1_renamed_44 (by decide) ?_
        refine lv_istore (lv' := [(5, .int (nI o)), (4, .int (nI o)), (3, .int (nI o)), (0, .int (nI t)), (1, .int (nI q)), (2, .int (nI o))]) hx hb dX1_renamed_51 hl (by decide) rfl (fun ls hl => ?_)
        refine lv_sipush (v := nI 256) hx hb dX1_renamed_53 (by decide +kernel) ?_
        refine lv_iload_n hx hb dX1_renamed_56 rfl (lv_at hl 2 rfl) ?_
        refine lv_imul hx hb dX1_renamed_57 ?_
        refine lv_topi (nm_r (show (nI 256) * (nI o) = nI (256 * (o)) from pk_mul _ _) ?_)
        refine lv_bipush (v := nI 16) hx hb dX1_renamed_58 (by decide +kernel) ?_
        refine lv_iload hx hb dX1_renamed_60 (lv_at hl 1 rfl) ?_
        refine lv_imul hx hb dX1_renamed_62 ?_
        refine lv_topi (nm_r (show (nI 16) * (nI o) = nI (16 * (o)) from pk_mul _ _) ?_)
        refine lv_iadd hx hb dX1_renamed_63 ?_
        refine lv_topi (nm_r (show (nI (256 * (o))) + (nI (16 * (o))) = nI (256 * (o) + 16 * (o)) from nI_add _ _) ?_)
        refine lv_iload hx hb dX1_renamed_64 (lv_at hl 0 rfl) ?_
        refine lv_iadd hx hb dX1_renamed_66 ?_
        refine lv_topi (nm_r (show (nI (256 * (o) + 16 * (o))) + (nI o) = nI (256 * (o) + 16 * (o) + o) from nI_add _ _) ?_)
        exact r_iX hx hb hr (by unfold rnT; rw [rn_y c_43, rn_y c_47, rn_y c_49]) dX1_renamed_67 hlocks
set_option maxHeartbeats 4000000 in
set_option maxRecDepth 100000 in
theorem c_X1_mentions (l : Launch) (D : va_G) (g : Nat → ClassId) (H : Heap) (a w : Nat) (f : Nat → Int64) (ho : HA D H a (eO 1 [.ref w])) (hw : HA D H w (eL (g 2) 64 f)) (q : Nat) (hq : q < 16) (bb : Bool) (hbb : bb = true ↔ ∃ t, t < 4096 ∧ bt f t = true ∧ pointIn t q) : Met l yX1_mentions wsX1_mentions ({ frames := 2, cells := 0, slots := 0, locals := 41 } : Room) (kPc D g [.ref a, .int (nI q)] H) (kX (.int (b2i bb)) H) 0 0 kN := by
  refine Met.ofW (cc := cX1_mentions) (maxL := 3) (ret := (some .boolean)) (by decide) rfl ?_
  intro p e s m args below meth c s₁ B hml hv
  obtain ⟨rfl, hH, hK⟩ := hv
  have hx := B.exec
  have hb := B.bytes
  have hr := B.returns
  have hts := atoms_spec (ws := wsX1_mentions) B.pre
  have hown : s.vm.findClass RX1 = some m.cls := findClass_of_methodNamed B.named
  have hlocks := B.notSynchronized
  rw [hH]
  have hl := lv_entry ([.ref a, .int (nI q)]) (n := 3) (Nat.le_of_ble_eq_true rfl)
  rw [lg_entry_eq]
  generalize (lg_sl ([.ref a, .int (nI q)]) ++ List.replicate (3 - (lg_sl ([.ref a, .int (nI q)])).length) Slot.unset).toArray = ls at hl ⊢
  have hl : lv_has ls 3 [(0, .ref a), (1, .int (nI q))] := hl
  refine lv_iconst (v := nI 0) hx hb dX1_mentions_0 (by decide +kernel) ?_
  refine lv_istore_n (lv' := [(2, .int (nI 0)), (0, .ref a), (1, .int (nI q))]) hx hb dX1_mentions_1 rfl hl (by decide) rfl (fun ls hl => ?_)
  have loop : ∀ (n i : Nat), 4096 < i + n → i ≤ 4096 → (∀ j, j < i → bt f j = true → ¬ pointIn j q) → ∀ ls, lv_has ls 3 [(2, .int (nI i)), (0, .ref a), (1, .int (nI q))] → W p l e (headSpec wsX1_mentions ({ frames := 2, cells := 0, slots := 0, locals := 41 } : Room)).room s m ([.ref a, .int (nI q)] : List Value).toArray below meth c H [] 0 0 (MQ below (kX (.int (b2i bb)) H) ([.ref a, .int (nI q)] : List Value).toArray s 0 0 kN) (F0 m 2 ls []) := by
    intro n
    induction n with
    | zero => intro i h0 h1; omega
    | succ n ih =>
      intro i hn hi hv ls hl
      refine lv_iload_n hx hb dX1_mentions_2 rfl (lv_at hl 0 rfl) ?_
      refine lv_sipush (v := nI 4096) hx hb dX1_mentions_3 (by decide +kernel) ?_
      refine n_icmp_ge (tgt := 49) hx hb dX1_mentions_6 (by decide) (by omega) (by omega) (fun c_50 => ?_) (fun c_50 => ?_)
      · skip
        refine lv_iconst (v := b2i false) hx hb dX1_mentions_49 (by decide +kernel) ?_
        exact r_zX hx hb hr (by rw [show bb = false from ts_nt (fun z => by obtain ⟨t, h1, h2, h3⟩ := hbb.mp z; exact hv t (by omega) h2 h3)]) dX1_mentions_50 hlocks
      · skip
        refine lv_aload_n hx hb dX1_mentions_9 rfl (lv_at hl 1 rfl) ?_
        refine lv_iload_n hx hb dX1_mentions_10 rfl (lv_at hl 0 rfl) ?_
        refine k_callX (va_runV (As := [.int (nI i)]) (rest := []) ⟨hx, hb, hml, hown, hts⟩ (c_X1_has l D g H a w f ho hw (i) (by omega)) (cwV 1 hts gX1_mentions_X1_has rfl rfl rfl (by decide +kernel) ⟨Nat.le_of_ble_eq_true rfl, Nat.le_of_ble_eq_true rfl⟩) ⟨kPc_blind, k_recv hK ho rfl, fun U hU hW => kPc_at hK hU hW⟩ rfl rfl hl.1 rfl (lv_room (Nat.le_of_ble_eq_true rfl)) dX1_mentions_11 ⟨Nat.le_of_ble_eq_true rfl, Nat.le_of_ble_eq_true rfl⟩) ?_
        refine z_if_eq (tgt := 43) hx hb dX1_mentions_14 (by decide) (fun c_51 => ?_) (fun c_51 => ?_)
        · skip
          refine lv_iinc (v := nI (i + 1)) (lv' := [(2, .int (nI (i + 1))), (0, .ref a), (1, .int (nI q))]) hx hb dX1_mentions_43 hl (k := 0) rfl (nI_add (i) 1) (by decide) rfl (fun ls hl => ?_)
          refine lv_goto (tgt := 2) hx hb dX1_mentions_46 (by decide) ?_
          refine ih (i + 1) (by omega) (by omega) ?_ ls (lv_sub hl [0, 1, 2] rfl)
          intro j hj hb2
          rcases Nat.lt_or_ge j i with z | z
          · exact hv j z hb2
          · rw [show j = i by omega, c_51] at hb2; cases hb2
        · skip
          refine lv_iload_n hx hb dX1_mentions_17 rfl (lv_at hl 0 rfl) ?_
          refine k_callX (va_runS (As := [.int (nI i)]) (rest := []) ⟨hx, hb, hml, hown, hts⟩ (c_X1_subject l D g H i (by omega)) (va_cwS 1 hts gX1_mentions_X1_subject rfl rfl rfl (by decide +kernel) ⟨Nat.le_of_ble_eq_true rfl, Nat.le_of_ble_eq_true rfl⟩) ⟨kPc_blind, fun U hU hW => kPc_at hK hU hW⟩ rfl rfl hl.1 rfl (lv_room (Nat.le_of_ble_eq_true rfl)) dX1_mentions_18 ⟨Nat.le_of_ble_eq_true rfl, Nat.le_of_ble_eq_true rfl⟩) ?_
          refine lv_iload_n hx hb dX1_mentions_21 rfl (lv_at hl 2 rfl) ?_
          refine n_icmp_eq (tgt := 41) hx hb dX1_mentions_22 (by decide) (by omega) (by omega) (fun c_52 => ?_) (fun c_52 => ?_)
          · skip
            refine lv_iconst (v := b2i true) hx hb dX1_mentions_41 (by decide +kernel) ?_
            exact r_zX hx hb hr (by rw [hbb.mpr ⟨i, by omega, c_51, Or.inl c_52⟩]) dX1_mentions_42 hlocks
          · skip
            refine lv_iload_n hx hb dX1_mentions_25 rfl (lv_at hl 0 rfl) ?_
            refine k_callX (va_runS (As := [.int (nI i)]) (rest := []) ⟨hx, hb, hml, hown, hts⟩ (c_X1_property l D g H i (by omega)) (va_cwS 1 hts gX1_mentions_X1_property rfl rfl rfl (by decide +kernel) ⟨Nat.le_of_ble_eq_true rfl, Nat.le_of_ble_eq_true rfl⟩) ⟨kPc_blind, fun U hU hW => kPc_at hK hU hW⟩ rfl rfl hl.1 rfl (lv_room (Nat.le_of_ble_eq_true rfl)) dX1_mentions_26 ⟨Nat.le_of_ble_eq_true rfl, Nat.le_of_ble_eq_true rfl⟩) ?_
            refine lv_iload_n hx hb dX1_mentions_29 rfl (lv_at hl 2 rfl) ?_
            refine n_icmp_eq (tgt := 41) hx hb dX1_mentions_30 (by decide) (by omega) (by omega) (fun c_53 => ?_) (fun c_53 => ?_)
            · skip
              refine lv_iconst (v := b2i true) hx hb dX1_mentions_41 (by decide +kernel) ?_
              exact r_zX hx hb hr (by rw [hbb.mpr ⟨i, by omega, c_51, Or.inr (Or.inl c_53)⟩]) dX1_mentions_42 hlocks
            · skip
              refine lv_iload_n hx hb dX1_mentions_33 rfl (lv_at hl 0 rfl) ?_
              refine k_callX (va_runS (As := [.int (nI i)]) (rest := []) ⟨hx, hb, hml, hown, hts⟩ (c_X1_object l D g H i (by omega)) (va_cwS 1 hts gX1_mentions_X1_object rfl rfl rfl (by decide +kernel) ⟨Nat.le_of_ble_eq_true rfl, Nat.le_of_ble_eq_true rfl⟩) ⟨kPc_blind, fun U hU hW => kPc_at hK hU hW⟩ rfl rfl hl.1 rfl (lv_room (Nat.le_of_ble_eq_true rfl)) dX1_mentions_34 ⟨Nat.le_of_ble_eq_true rfl, Nat.le_of_ble_eq_true rfl⟩) ?_
              refine lv_iload_n hx hb dX1_mentions_37 rfl (lv_at hl 2 rfl) ?_
              refine n_icmp_ne (tgt := 43) hx hb dX1_mentions_38 (by decide) (by omega) (by omega) (fun c_54 => ?_) (fun c_54 => ?_)
              · skip
                refine lv_iinc (v := nI (i + 1)) (lv' := [(2, .int (nI (i + 1))), (0, .ref a), (1, .int (nI q))]) hx hb dX1_mentions_43 hl (k := 0) rfl (nI_add (i) 1) (by decide) rfl (fun ls hl => ?_)
                refine lv_goto (tgt := 2) hx hb dX1_mentions_46 (by decide) ?_
                refine ih (i + 1) (by omega) (by omega) ?_ ls (lv_sub hl [0, 1, 2] rfl)
                intro j hj hb2
                rcases Nat.lt_or_ge j i with z | z
                · exact hv j z hb2
                · rw [show j = i by omega]; exact fun z2 => z2.elim c_52 (fun z3 => z3.elim c_53 c_54)
              · skip
                refine lv_iconst (v := b2i true) hx hb dX1_mentions_41 (by decide +kernel) ?_
                exact r_zX hx hb hr (by rw [hbb.mpr ⟨i, by omega, c_51, Or.inr (Or.inr c_54)⟩]) dX1_mentions_42 hlocks
  exact loop 4097 0 (by omega) (by omega) (fun j h => by omega) ls (lv_sub hl [0, 1, 2] rfl)
set_option maxHeartbeats 4000000 in
set_option maxRecDepth 100000 in
theorem c_X1_becomeRenamed (l : Launch) (D : va_G) (g : Nat → ClassId) (b0 : Nat) (H : Heap) (a w : Nat) (f : Nat → Int64) (ho : HA D H a (eO 1 [.ref w])) (hw : HA D H w (eL (g 2) 64 f)) (hab : b0 ≤ w) (haw : a ≠ w) (x wx : Nat) (fx : Nat → Int64) (hox : HA D H x (eO 1 [.ref wx])) (hwx : HA D H wx (eL (g 2) 64 fx)) (hxw : x ≠ w) (hwxw : wx ≠ w) (q o : Nat) (hq : q < 16) (hoo : o < 16) : Met l yX1_becomeRenamed wsX1_becomeRenamed ({ frames := 2, cells := 0, slots := 0, locals := 45 } : Room) (kPc D g [.ref a, .ref x, .int (nI q), .int (nI o)] H) (kU (fun H1 => ∃ f1 : Nat → Int64, HA D H1 w (eL (g 2) 64 f1) ∧ Chg H H1 w ∧ ∀ u, u < 4096 → (bt f1 u = true ↔ ∃ t, t < 4096 ∧ bt fx t = true ∧ rnT t q o = u))) 0 0 (kF b0) := by
  refine Met.ofW (cc := cX1_becomeRenamed) (maxL := 5) (ret := none) (by decide) rfl ?_
  intro p e s m args below meth c s₁ B hml hv
  obtain ⟨rfl, hH, hK⟩ := hv
  have hx := B.exec
  have hb := B.bytes
  have hr := B.returns
  have hts := atoms_spec (ws := wsX1_becomeRenamed) B.pre
  have hown : s.vm.findClass RX1 = some m.cls := findClass_of_methodNamed B.named
  have hlocks := B.notSynchronized
  rw [hH]
  have hl := lv_entry ([.ref a, .ref x, .int (nI q), .int (nI o)]) (n := 5) (Nat.le_of_ble_eq_true rfl)
  rw [lg_entry_eq]
  generalize (lg_sl ([.ref a, .ref x, .int (nI q), .int (nI o)]) ++ List.replicate (5 - (lg_sl ([.ref a, .ref x, .int (nI q), .int (nI o)])).length) Slot.unset).toArray = ls at hl ⊢
  have hl : lv_has ls 5 [(0, .ref a), (1, .ref x), (2, .int (nI q)), (3, .int (nI o))] := hl
  refine lv_iconst (v := nI 0) hx hb dX1_becomeRenamed_0 (by decide +kernel) ?_
  refine lv_istore (lv' := [(4, .int (nI 0)), (0, .ref a), (1, .ref x), (2, .int (nI q)), (3, .int (nI o))]) hx hb dX1_becomeRenamed_1 hl (by decide) rfl (fun ls hl => ?_)
  have loop2 : ∀ (n i : Nat) (H1 : Heap) (locs1 : List Loc) (f1 : Nat → Int64), 4096 < i + n → i ≤ 4096 → HA D H1 w (eL (g 2) 64 f1) → Chg H H1 w → LB b0 locs1 → (∀ u, u < 4096 → (bt f1 u = true ↔ ∃ t, t < i ∧ bt fx t = true ∧ rnT t q o = u)) → ∀ ls, lv_has ls 5 [(4, .int (nI i)), (0, .ref a), (1, .ref x), (2, .int (nI q)), (3, .int (nI o))] → W p l e (headSpec wsX1_becomeRenamed ({ frames := 2, cells := 0, slots := 0, locals := 45 } : Room)).room s m ([.ref a, .ref x, .int (nI q), .int (nI o)] : List Value).toArray below meth c H1 locs1 0 0 (MQ below (kU (fun H1 => ∃ f1 : Nat → Int64, HA D H1 w (eL (g 2) 64 f1) ∧ Chg H H1 w ∧ ∀ u, u < 4096 → (bt f1 u = true ↔ ∃ t, t < 4096 ∧ bt fx t = true ∧ rnT t q o = u))) ([.ref a, .ref x, .int (nI q), .int (nI o)] : List Value).toArray s 0 0 (kF b0)) (F0 m 27 ls []) := by
    intro n
    induction n with
    | zero => intro i H1 locs1 f1 h0 h1; omega
    | succ n ih =>
      intro i H1 locs1 f1 hn hi hf hC hLB hv ls hl
      have hoa := ho.chg hC haw
      have hob := hox.chg hC hxw
      have hwb := hwx.chg hC hwxw
      refine lv_iload hx hb dX1_becomeRenamed_27 (lv_at hl 0 rfl) ?_
      refine lv_sipush (v := nI 4096) hx hb dX1_becomeRenamed_29 (by decide +kernel) ?_
      refine n_icmp_ge (tgt := 62) hx hb dX1_becomeRenamed_32 (by decide) (by omega) (by omega) (fun c_55 => ?_) (fun c_55 => ?_)
      · skip
        exact r_vU hx hb hr hLB (Nat.le_refl _) (Nat.le_refl _) ⟨f1, hf, hC, fun u hu => (hv u hu).trans ⟨fun ⟨t, h1, h2⟩ => ⟨t, by omega, h2⟩, fun ⟨t, h1, h2⟩ => ⟨t, by omega, h2⟩⟩⟩ dX1_becomeRenamed_62 hlocks
      · skip
        refine lv_aload_n hx hb dX1_becomeRenamed_35 rfl (lv_at hl 2 rfl) ?_
        refine lv_iload hx hb dX1_becomeRenamed_36 (lv_at hl 0 rfl) ?_
        refine k_callX (va_runV (As := [.int (nI i)]) (rest := []) ⟨hx, hb, hml, hown, hts⟩ (c_X1_has l D g H1 x wx fx hob hwb i (by omega)) (cwV 1 hts gX1_becomeRenamed_X1_has rfl rfl rfl (by decide +kernel) ⟨Nat.le_of_ble_eq_true rfl, Nat.le_of_ble_eq_true rfl⟩) ⟨kPc_blind, k_recv hK hob rfl, fun U hU hW => kPc_at hK hU hW⟩ rfl rfl hl.1 rfl (lv_room (Nat.le_of_ble_eq_true rfl)) dX1_becomeRenamed_38 ⟨Nat.le_of_ble_eq_true rfl, Nat.le_of_ble_eq_true rfl⟩) ?_
        refine z_if_eq (tgt := 56) hx hb dX1_becomeRenamed_41 (by decide) (fun c_56 => ?_) (fun c_56 => ?_)
        · skip
          refine lv_iinc (v := nI (i + 1)) (lv' := [(4, .int (nI (i + 1))), (0, .ref a), (1, .ref x), (2, .int (nI q)), (3, .int (nI o))]) hx hb dX1_becomeRenamed_56 hl (k := 0) rfl (nI_add (i) 1) (by decide) rfl (fun ls hl => ?_)
          refine lv_goto (tgt := 27) hx hb dX1_becomeRenamed_59 (by decide) ?_
          refine ih (i + 1) H1 locs1 f1 (by omega) (by omega) hf hC hLB ?_ ls (lv_sub hl [0, 1, 2, 3, 4] rfl)
          intro u hu
          rw [hv u hu]
          constructor
          · rintro ⟨t, h1, h2⟩; exact ⟨t, by omega, h2⟩
          · rintro ⟨t, h1, h2, h3⟩
            rcases Nat.lt_or_ge t i with z | z
            · exact ⟨t, z, h2, h3⟩
            · rw [show t = i by omega, c_56] at h2; cases h2
        · skip
          refine lv_aload_n hx hb dX1_becomeRenamed_44 rfl (lv_at hl 1 rfl) ?_
          refine lv_iload hx hb dX1_becomeRenamed_45 (lv_at hl 0 rfl) ?_
          refine lv_iload_n hx hb dX1_becomeRenamed_47 rfl (lv_at hl 3 rfl) ?_
          refine lv_iload_n hx hb dX1_becomeRenamed_48 rfl (lv_at hl 4 rfl) ?_
          refine k_callX (va_runS (As := [.int (nI i), .int (nI q), .int (nI o)]) (rest := [.ref a]) ⟨hx, hb, hml, hown, hts⟩ (c_X1_renamed l D g H1 i q o (by omega) hq hoo) (va_cwS 3 hts gX1_becomeRenamed_X1_renamed rfl rfl rfl (by decide +kernel) ⟨Nat.le_of_ble_eq_true rfl, Nat.le_of_ble_eq_true rfl⟩) ⟨kPc_blind, fun U hU hW => kPc_at hK hU hW⟩ rfl rfl hl.1 rfl (lv_room (Nat.le_of_ble_eq_true rfl)) dX1_becomeRenamed_49 ⟨Nat.le_of_ble_eq_true rfl, Nat.le_of_ble_eq_true rfl⟩) ?_
          refine lv_iconst (v := b2i true) hx hb dX1_becomeRenamed_52 (by decide +kernel) ?_
          have hrt := rnT_lt (t := i) (p := q) (o := o) (by omega) hoo
          refine k_callU (va_runV (As := [.int (nI (rnT i q o)), .int (b2i true)]) (rest := []) ⟨hx, hb, hml, hown, hts⟩ (c_X1_change l D g b0 H1 a w f1 hoa hf hab (rnT i q o) hrt true) (cwV 2 hts gX1_becomeRenamed_X1_change rfl rfl rfl (by decide +kernel) ⟨Nat.le_of_ble_eq_true rfl, Nat.le_of_ble_eq_true rfl⟩) ⟨kPc_blind, k_recv hK hoa rfl, fun U hU hW => kPc_at hK hU hW⟩ rfl rfl hl.1 rfl (lv_room (Nat.le_of_ble_eq_true rfl)) dX1_becomeRenamed_53 ⟨Nat.le_of_ble_eq_true rfl, Nat.le_of_ble_eq_true rfl⟩) hLB (fun H2 locs2 hLB2 hq2 => ?_)
          obtain ⟨f2, hf2, hC2, hu2⟩ := hq2
          refine lv_iinc (v := nI (i + 1)) (lv' := [(4, .int (nI (i + 1))), (0, .ref a), (1, .ref x), (2, .int (nI q)), (3, .int (nI o))]) hx hb dX1_becomeRenamed_56 hl (k := 0) rfl (nI_add (i) 1) (by decide) rfl (fun ls hl => ?_)
          refine lv_goto (tgt := 27) hx hb dX1_becomeRenamed_59 (by decide) ?_
          refine ih (i + 1) H2 locs2 f2 (by omega) (by omega) hf2 (hC.tr hC2) hLB2 ?_ ls (lv_sub hl [0, 1, 2, 3, 4] rfl)
          intro u hu
          rw [hu2 u]
          by_cases hz : u = rnT i q o
          · rw [if_pos hz]
            exact ⟨fun _ => ⟨i, by omega, c_56, hz.symm⟩, fun _ => rfl⟩
          · rw [if_neg hz, hv u hu]
            constructor
            · rintro ⟨t, h1, h2⟩; exact ⟨t, by omega, h2⟩
            · rintro ⟨t, h1, h2, h3⟩
              rcases Nat.lt_or_ge t i with z | z
              · exact ⟨t, z, h2, h3⟩
              · exact absurd (by rw [← h3, show t = i by omega]) hz
  have loop : ∀ (n i : Nat) (H1 : Heap) (locs1 : List Loc) (f1 : Nat → Int64), 64 < i + n → i ≤ 64 → HA D H1 w (eL (g 2) 64 f1) → Chg H H1 w → LB b0 locs1 → (∀ j, j < i → f1 j = 0) → ∀ ls, lv_has ls 5 [(4, .int (nI i)), (0, .ref a), (1, .ref x), (2, .int (nI q)), (3, .int (nI o))] → W p l e (headSpec wsX1_becomeRenamed ({ frames := 2, cells := 0, slots := 0, locals := 45 } : Room)).room s m ([.ref a, .ref x, .int (nI q), .int (nI o)] : List Value).toArray below meth c H1 locs1 0 0 (MQ below (kU (fun H1 => ∃ f1 : Nat → Int64, HA D H1 w (eL (g 2) 64 f1) ∧ Chg H H1 w ∧ ∀ u, u < 4096 → (bt f1 u = true ↔ ∃ t, t < 4096 ∧ bt fx t = true ∧ rnT t q o = u))) ([.ref a, .ref x, .int (nI q), .int (nI o)] : List Value).toArray s 0 0 (kF b0)) (F0 m 3 ls []) := by
    intro n
    induction n with
    | zero => intro i H1 locs1 f1 h0 h1; omega
    | succ n ih =>
      intro i H1 locs1 f1 hn hi hf hC hLB hv ls hl
      have hoa := ho.chg hC haw
      refine lv_iload hx hb dX1_becomeRenamed_3 (lv_at hl 0 rfl) ?_
      refine lv_bipush (v := nI 64) hx hb dX1_becomeRenamed_5 (by decide +kernel) ?_
      refine n_icmp_ge (tgt := 24) hx hb dX1_becomeRenamed_7 (by decide) (by omega) (by omega) (fun c_57 => ?_) (fun c_57 => ?_)
      · skip
        refine lv_iconst (v := nI 0) hx hb dX1_becomeRenamed_24 (by decide +kernel) ?_
        refine lv_istore (lv' := [(4, .int (nI 0)), (0, .ref a), (1, .ref x), (2, .int (nI q)), (3, .int (nI o))]) hx hb dX1_becomeRenamed_25 hl (by decide) rfl (fun ls hl => ?_)
        exact loop2 4097 0 H1 locs1 f1 (by omega) (by omega) hf hC hLB (fun u hu => ⟨fun h => (by unfold bt at h; rw [hv _ (by omega), w_0] at h; cases h), fun ⟨t, h1, _⟩ => absurd h1 (Nat.not_lt_zero _)⟩) ls (lv_sub hl [0, 1, 2, 3, 4] rfl)
      · skip
        refine lv_aload_n hx hb dX1_becomeRenamed_10 rfl (lv_at hl 1 rfl) ?_
        refine k_get (ci := 1) (C := RX1) (T := TX1) (N := 1) (v := .ref w) hx hb hts (by decide +kernel) hown hK hoa rfl 0 (by decide) rfl (hts (.fieldLink RX1 9 RX1 "words" "[J") (by decide +kernel)) rfl dX1_becomeRenamed_11 ?_
        refine lv_iload hx hb dX1_becomeRenamed_14 (lv_at hl 0 rfl) ?_
        refine lv_lconst (v := 0) hx hb dX1_becomeRenamed_16 (by decide +kernel) ?_
        refine k_last hx hb hK hf hLB hab (i) rfl (by omega) (by omega) dX1_becomeRenamed_17 (fun H_58 locs_59 hw_60 hC_61 hLB_62 => ?_)
        refine lv_iinc (v := nI (i + 1)) (lv' := [(4, .int (nI (i + 1))), (0, .ref a), (1, .ref x), (2, .int (nI q)), (3, .int (nI o))]) hx hb dX1_becomeRenamed_18 hl (k := 0) rfl (nI_add (i) 1) (by decide) rfl (fun ls hl => ?_)
        refine lv_goto (tgt := 3) hx hb dX1_becomeRenamed_21 (by decide) ?_
        refine ih (i + 1) H_58 locs_59 _ (by omega) (by omega) hw_60 (hC.tr hC_61) hLB_62 ?_ ls (lv_sub hl [0, 1, 2, 3, 4] rfl)
        intro j hj
        rcases Nat.lt_or_ge j i with q | q
        · rw [pk_uLn (by omega)]; exact hv j q
        · have e : j = i := by omega
          subst e
          rw [pk_uLs]
  exact loop 65 0 H [] f (by omega) (by omega) hw Chg.rf LB.nil (fun j h => by omega) ls (lv_sub hl [0, 1, 2, 3, 4] rfl)
set_option maxHeartbeats 4000000 in
set_option maxRecDepth 100000 in
theorem c_X1_becomeCopy (l : Launch) (D : va_G) (g : Nat → ClassId) (b0 : Nat) (H : Heap) (a w : Nat) (f : Nat → Int64) (ho : HA D H a (eO 1 [.ref w])) (hw : HA D H w (eL (g 2) 64 f)) (hab : b0 ≤ w) (x wx : Nat) (fx : Nat → Int64) (hox : HA D H x (eO 1 [.ref wx])) (hwx : HA D H wx (eL (g 2) 64 fx)) (hxb : b0 ≤ wx) (hwxw : wx ≠ w) : Met l yX1_becomeCopy wsX1_becomeCopy ({ frames := 1, cells := 0, slots := 0, locals := 40 } : Room) (kPc D g [.ref a, .ref x] H) (kU (fun H1 => ∃ f1 : Nat → Int64, HA D H1 w (eL (g 2) 64 f1) ∧ Chg H H1 w ∧ ∀ j, j < 64 → f1 j = fx j)) 0 0 (kF b0) := by
  refine Met.ofW (cc := cX1_becomeCopy) (maxL := 2) (ret := none) (by decide) rfl ?_
  intro p e s m args below meth c s₁ B hml hv
  obtain ⟨rfl, hH, hK⟩ := hv
  have hx := B.exec
  have hb := B.bytes
  have hr := B.returns
  have hts := atoms_spec (ws := wsX1_becomeCopy) B.pre
  have hown : s.vm.findClass RX1 = some m.cls := findClass_of_methodNamed B.named
  have hlocks := B.notSynchronized
  rw [hH]
  have hl := lv_entry ([.ref a, .ref x]) (n := 2) (Nat.le_of_ble_eq_true rfl)
  rw [lg_entry_eq]
  generalize (lg_sl ([.ref a, .ref x]) ++ List.replicate (2 - (lg_sl ([.ref a, .ref x])).length) Slot.unset).toArray = ls at hl ⊢
  have hl : lv_has ls 2 [(0, .ref a), (1, .ref x)] := hl
  refine lv_aload_n hx hb dX1_becomeCopy_0 rfl (lv_at hl 1 rfl) ?_
  refine k_get (ci := 1) (C := RX1) (T := TX1) (N := 1) (v := .ref wx) hx hb hts (by decide +kernel) hown hK hox rfl 0 (by decide) rfl (hts (.fieldLink RX1 9 RX1 "words" "[J") (by decide +kernel)) rfl dX1_becomeCopy_1 ?_
  refine lv_iconst (v := nI 0) hx hb dX1_becomeCopy_4 (by decide +kernel) ?_
  refine lv_aload_n hx hb dX1_becomeCopy_5 rfl (lv_at hl 0 rfl) ?_
  refine k_get (ci := 1) (C := RX1) (T := TX1) (N := 1) (v := .ref w) hx hb hts (by decide +kernel) hown hK ho rfl 0 (by decide) rfl (hts (.fieldLink RX1 9 RX1 "words" "[J") (by decide +kernel)) rfl dX1_becomeCopy_6 ?_
  refine lv_iconst (v := nI 0) hx hb dX1_becomeCopy_9 (by decide +kernel) ?_
  refine lv_bipush (v := nI 64) hx hb dX1_becomeCopy_10 (by decide +kernel) ?_
  have hP2 : va_P D vwCl [(wx, eL (g 2) 64 fx), (w, eL (g 2) 64 f)] H := va_P.app hwx.one hw.one
  have hD2 : va_D (fun q : Nat => q = wx ∨ q = w) [(wx, eL (g 2) 64 fx), (w, eL (g 2) 64 f)] := by
    refine ⟨?_, ?_⟩
    · intro i j p q hi hj hpq
      match i, j, hi, hj with
      | 0, 0, _, _ => rfl
      | 1, 1, _, _ => rfl
      | 0, 1, hi, hj => cases hi; cases hj; exact absurd hpq hwxw
      | 1, 0, hi, hj => cases hi; cases hj; exact absurd hpq.symm hwxw
      | k + 2, _, hi, _ => cases hi
      | 0, k + 2, _, hj => cases hj
      | 1, k + 2, _, hj => cases hj
    · intro k q hk
      match k, hk with
      | 0, hk => cases hk; exact Or.inl rfl
      | 1, hk => cases hk; exact Or.inr rfl
      | k + 2, hk => cases hk
  refine va_copyl (ty := .long) (A := fun q : Nat => q = wx ∨ q = w) (H0 := H) hx hb (hml.trans hl.1.symm) hown (hts (.methodLink RX1 21 arraycopyName) (by decide +kernel)) (hts (.native arraycopyName) (by decide +kernel)) (hts (.static arraycopyName) (by decide +kernel)) (hts (.initialized "java/lang/System") (by decide +kernel)) hK.1 hP2 hD2 va_S.rf 0 1 2 2 rfl rfl rfl rfl rfl (by decide +kernel) (by decide +kernel) (by decide +kernel) (by decide +kernel) (by decide +kernel) (fun _ _ => rfl) (Nat.le_of_ble_eq_true rfl) (by decide +kernel) dX1_becomeCopy_12 (fun H1 locs1 hP1 _ hS1 => ?_)
  have hwf : HA D H1 w _ := hP1 1 _ rfl
  have hwxf : HA D H1 wx _ := hP1 0 _ rfl
  have hLB1 : LB b0 locs1 := fun q hq => (hS1.2.2 q hq).elim (fun z => by rw [z]; exact hxb) (fun z => by rw [z]; exact hab)
  have hC1 : Chg H H1 w := by
    refine ⟨hS1.1, fun q hl hq => ?_⟩
    by_cases hz : q = wx
    · rw [hz]
      have e1 : H1[wx]? = _ := hwxf
      have e2 : H[wx]? = _ := hwx
      rw [e1, e2]
    · exact hS1.2.1 q hl (fun z => z.elim hz hq)
  exact r_vU hx hb hr hLB1 (Nat.le_refl _) (Nat.le_refl _) ⟨_, hwf, hC1, fun j hj => by rw [pk_cpy_in (by show 0 ≤ j; omega) (by show j < 0 + 64; omega)]; show fx (0 + (j - 0)) = fx j; rw [Nat.zero_add, Nat.sub_zero]⟩ dX1_becomeCopy_15 hlocks

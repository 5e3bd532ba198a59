/-! 08: leaves: counts, keys (laid by wip/gen/leaf3.py) -/
set_option maxHeartbeats 4000000 in
set_option maxRecDepth 100000 in
/-- Long.bitCount: some int -/
theorem c_J13_bitCount_w (l : Launch) (D : va_G) (g : Nat → ClassId) (H : Heap) (x : Int64) : Met l yJ13_bitCount_95d88 wsJ13_bitCount_95d88 ({ frames := 0, cells := 0, slots := 0, locals := 0 } : Room) (kPc D g [.long (x)] H) (kS (fun _ => True) H) 0 0 kN := by
  refine Met.ofW (cc := cJ13_bitCount_95d88) (maxL := 2) (ret := (some .int)) (by decide) rfl ?_
  intro p e s m args below meth c s₁ B hml hv
  obtain ⟨rfl, hH, hK⟩ := hv
  have hx := B.exec
  have hb := B.bytes
  have hr := B.returns
  have hts := atoms_spec (ws := wsJ13_bitCount_95d88) B.pre
  have hlocks := B.notSynchronized
  rw [hH]
  have hl := lv_entry ([.long (x)]) (n := 2) (Nat.le_of_ble_eq_true rfl)
  rw [lg_entry_eq]
  generalize (lg_sl ([.long (x)]) ++ List.replicate (2 - (lg_sl ([.long (x)])).length) Slot.unset).toArray = ls at hl ⊢
  have hl : lv_has ls 2 [(0, .long (x))] := hl
  have hown : s.vm.findClass RJ13 = some m.cls := findClass_of_methodNamed B.named
  refine lv_lload_n hx hb dJ13_bitCount_95d88_0 rfl (lv_at hl 0 rfl) ?_
  refine lv_lload_n hx hb dJ13_bitCount_95d88_1 rfl (lv_at hl 0 rfl) ?_
  refine lv_iconst (v := nI 1) hx hb dJ13_bitCount_95d88_2 (by decide +kernel) ?_
  refine lv_lushr (v := ((x).toUInt64 >>> ((nI 1).toInt64.toUInt64 &&& Int64.toUInt64 63)).toInt64) hx hb dJ13_bitCount_95d88_3 rfl ?_
  refine lv_ldc2 (v := (6148914691236517205)) hx hb hown (hts (.constantLong RJ13 314 (6148914691236517205)) (by decide +kernel)) dJ13_bitCount_95d88_4 ?_
  refine lv_land hx hb dJ13_bitCount_95d88_7 ?_
  refine lv_lsub hx hb dJ13_bitCount_95d88_8 ?_
  refine lv_topl (fun x_63 _ => ?_)
  refine lv_lstore_n (lv' := [(0, .long (x_63))]) hx hb dJ13_bitCount_95d88_9 rfl hl (by decide) rfl (fun ls hl => ?_)
  refine lv_lload_n hx hb dJ13_bitCount_95d88_10 rfl (lv_at hl 0 rfl) ?_
  refine lv_ldc2 (v := (3689348814741910323)) hx hb hown (hts (.constantLong RJ13 316 (3689348814741910323)) (by decide +kernel)) dJ13_bitCount_95d88_11 ?_
  refine lv_land hx hb dJ13_bitCount_95d88_14 ?_
  refine lv_lload_n hx hb dJ13_bitCount_95d88_15 rfl (lv_at hl 0 rfl) ?_
  refine lv_iconst (v := nI 2) hx hb dJ13_bitCount_95d88_16 (by decide +kernel) ?_
  refine lv_lushr (v := ((x_63).toUInt64 >>> ((nI 2).toInt64.toUInt64 &&& Int64.toUInt64 63)).toInt64) hx hb dJ13_bitCount_95d88_17 rfl ?_
  refine lv_ldc2 (v := (3689348814741910323)) hx hb hown (hts (.constantLong RJ13 316 (3689348814741910323)) (by decide +kernel)) dJ13_bitCount_95d88_18 ?_
  refine lv_land hx hb dJ13_bitCount_95d88_21 ?_
  refine lv_ladd hx hb dJ13_bitCount_95d88_22 ?_
  refine lv_topl (fun x_64 _ => ?_)
  refine lv_lstore_n (lv' := [(0, .long (x_64))]) hx hb dJ13_bitCount_95d88_23 rfl hl (by decide) rfl (fun ls hl => ?_)
  refine lv_lload_n hx hb dJ13_bitCount_95d88_24 rfl (lv_at hl 0 rfl) ?_
  refine lv_lload_n hx hb dJ13_bitCount_95d88_25 rfl (lv_at hl 0 rfl) ?_
  refine lv_iconst (v := nI 4) hx hb dJ13_bitCount_95d88_26 (by decide +kernel) ?_
  refine lv_lushr (v := ((x_64).toUInt64 >>> ((nI 4).toInt64.toUInt64 &&& Int64.toUInt64 63)).toInt64) hx hb dJ13_bitCount_95d88_27 rfl ?_
  refine lv_ladd hx hb dJ13_bitCount_95d88_28 ?_
  refine lv_ldc2 (v := (1085102592571150095)) hx hb hown (hts (.constantLong RJ13 318 (1085102592571150095)) (by decide +kernel)) dJ13_bitCount_95d88_29 ?_
  refine lv_land hx hb dJ13_bitCount_95d88_32 ?_
  refine lv_topl (fun x_65 _ => ?_)
  refine lv_lstore_n (lv' := [(0, .long (x_65))]) hx hb dJ13_bitCount_95d88_33 rfl hl (by decide) rfl (fun ls hl => ?_)
  refine lv_lload_n hx hb dJ13_bitCount_95d88_34 rfl (lv_at hl 0 rfl) ?_
  refine lv_lload_n hx hb dJ13_bitCount_95d88_35 rfl (lv_at hl 0 rfl) ?_
  refine lv_bipush (v := nI 8) hx hb dJ13_bitCount_95d88_36 (by decide +kernel) ?_
  refine lv_lushr (v := ((x_65).toUInt64 >>> ((nI 8).toInt64.toUInt64 &&& Int64.toUInt64 63)).toInt64) hx hb dJ13_bitCount_95d88_38 rfl ?_
  refine lv_ladd hx hb dJ13_bitCount_95d88_39 ?_
  refine lv_topl (fun x_66 _ => ?_)
  refine lv_lstore_n (lv' := [(0, .long (x_66))]) hx hb dJ13_bitCount_95d88_40 rfl hl (by decide) rfl (fun ls hl => ?_)
  refine lv_lload_n hx hb dJ13_bitCount_95d88_41 rfl (lv_at hl 0 rfl) ?_
  refine lv_lload_n hx hb dJ13_bitCount_95d88_42 rfl (lv_at hl 0 rfl) ?_
  refine lv_bipush (v := nI 16) hx hb dJ13_bitCount_95d88_43 (by decide +kernel) ?_
  refine lv_lushr (v := ((x_66).toUInt64 >>> ((nI 16).toInt64.toUInt64 &&& Int64.toUInt64 63)).toInt64) hx hb dJ13_bitCount_95d88_45 rfl ?_
  refine lv_ladd hx hb dJ13_bitCount_95d88_46 ?_
  refine lv_topl (fun x_67 _ => ?_)
  refine lv_lstore_n (lv' := [(0, .long (x_67))]) hx hb dJ13_bitCount_95d88_47 rfl hl (by decide) rfl (fun ls hl => ?_)
  refine lv_lload_n hx hb dJ13_bitCount_95d88_48 rfl (lv_at hl 0 rfl) ?_
  refine lv_lload_n hx hb dJ13_bitCount_95d88_49 rfl (lv_at hl 0 rfl) ?_
  refine lv_bipush (v := nI 32) hx hb dJ13_bitCount_95d88_50 (by decide +kernel) ?_
  refine lv_lushr (v := ((x_67).toUInt64 >>> ((nI 32).toInt64.toUInt64 &&& Int64.toUInt64 63)).toInt64) hx hb dJ13_bitCount_95d88_52 rfl ?_
  refine lv_ladd hx hb dJ13_bitCount_95d88_53 ?_
  refine lv_topl (fun x_68 _ => ?_)
  refine lv_lstore_n (lv' := [(0, .long (x_68))]) hx hb dJ13_bitCount_95d88_54 rfl hl (by decide) rfl (fun ls hl => ?_)
  refine lv_lload_n hx hb dJ13_bitCount_95d88_55 rfl (lv_at hl 0 rfl) ?_
  refine lv_l2i (v := (x_68).toInt32) hx hb dJ13_bitCount_95d88_56 rfl ?_
  refine lv_bipush (v := nI 127) hx hb dJ13_bitCount_95d88_57 (by decide +kernel) ?_
  refine lv_iand hx hb dJ13_bitCount_95d88_59 ?_
  exact r_iS hx hb hr trivial dJ13_bitCount_95d88_60 hlocks
set_option maxHeartbeats 4000000 in
set_option maxRecDepth 100000 in
/-- isCrowded(key) -/
theorem c_X1_isCrowded (l : Launch) (D : va_G) (g : Nat → ClassId) (H : Heap) (a w : Nat) (f : Nat → Int64) (ho : HA D H a (eO 1 [.ref w])) (hw : HA D H w (eL (g 2) 64 f)) (k : Nat) (hk : k < 256) : Met l yX1_isCrowded wsX1_isCrowded ({ frames := 2, cells := 0, slots := 0, locals := 41 } : Room) (kPc D g [.ref a, .int (nI k)] H) (kX (.int (b2i (crowd (bt f) k))) H) 0 0 kN := by
  refine Met.ofW (cc := cX1_isCrowded) (maxL := 4) (ret := (some .boolean)) (by decide) rfl ?_
  intro p e s m args below meth c s₁ B hml hv
  obtain ⟨rfl, hH, hK⟩ := hv
  have hx := B.exec
  have hb := B.bytes
  have hr := B.returns
  have hts := atoms_spec (ws := wsX1_isCrowded) B.pre
  have hown : s.vm.findClass RX1 = some m.cls := findClass_of_methodNamed B.named
  have hlocks := B.notSynchronized
  rw [hH]
  have hl := lv_entry ([.ref a, .int (nI k)]) (n := 4) (Nat.le_of_ble_eq_true rfl)
  rw [lg_entry_eq]
  generalize (lg_sl ([.ref a, .int (nI k)]) ++ List.replicate (4 - (lg_sl ([.ref a, .int (nI k)])).length) Slot.unset).toArray = ls at hl ⊢
  have hl : lv_has ls 4 [(0, .ref a), (1, .int (nI k))] := hl
  refine lv_iload_n hx hb dX1_isCrowded_0 rfl (lv_at hl 1 rfl) ?_
  refine lv_bipush (v := nI 15) hx hb dX1_isCrowded_1 (by decide +kernel) ?_
  refine lv_iand hx hb dX1_isCrowded_3 ?_
  refine lv_topi (nm_r (show (nI k) &&& (nI 15) = nI (k % 16) from pk_andN (by omega) 4 (by decide +kernel)) ?_)
  refine lv_bipush (v := nI 12) hx hb dX1_isCrowded_4 (by decide +kernel) ?_
  refine n_icmp_ge (tgt := 11) hx hb dX1_isCrowded_6 (by decide) (by omega) (by omega) (fun c_69 => ?_) (fun c_69 => ?_)
  · skip
    refine lv_iconst (v := nI 0) hx hb dX1_isCrowded_11 (by decide +kernel) ?_
    refine lv_istore_n (lv' := [(2, .int (nI 0)), (0, .ref a), (1, .int (nI k))]) hx hb dX1_isCrowded_12 rfl hl (by decide) rfl (fun ls hl => ?_)
    refine lv_iconst (v := nI 0) hx hb dX1_isCrowded_13 (by decide +kernel) ?_
    refine lv_istore_n (lv' := [(3, .int (nI 0)), (2, .int (nI 0)), (0, .ref a), (1, .int (nI k))]) hx hb dX1_isCrowded_14 rfl hl (by decide) rfl (fun ls hl => ?_)
    have loop : ∀ (n i : Nat), 16 < i + n → i ≤ 16 → ∀ ls, lv_has ls 4 [(3, .int (nI i)), (2, .int (nI (cnt (fun o => bt f (16 * k + o)) i))), (0, .ref a), (1, .int (nI k))] → W p l e (headSpec wsX1_isCrowded ({ frames := 2, cells := 0, slots := 0, locals := 41 } : Room)).room s m ([.ref a, .int (nI k)] : List Value).toArray below meth c H [] 0 0 (MQ below (kX (.int (b2i (crowd (bt f) k))) H) ([.ref a, .int (nI k)] : List Value).toArray s 0 0 kN) (F0 m 15 ls []) := by
      intro n
      induction n with
      | zero => intro i h0 h1; omega
      | succ n ih =>
        intro i hn hi ls hl
        have hcl := cnt_le (fun o => bt f (16 * k + o)) i
        refine lv_iload_n hx hb dX1_isCrowded_15 rfl (lv_at hl 0 rfl) ?_
        refine lv_bipush (v := nI 16) hx hb dX1_isCrowded_16 (by decide +kernel) ?_
        refine n_icmp_ge (tgt := 43) hx hb dX1_isCrowded_18 (by decide) (by omega) (by omega) (fun c_70 => ?_) (fun c_70 => ?_)
        · skip
          refine lv_iload_n hx hb dX1_isCrowded_43 rfl (lv_at hl 1 rfl) ?_
          refine lv_iconst (v := nI 2) hx hb dX1_isCrowded_44 (by decide +kernel) ?_
          refine n_icmp_lt (tgt := 52) hx hb dX1_isCrowded_45 (by decide) (by omega) (by omega) (fun c_71 => ?_) (fun c_71 => ?_)
          · skip
            refine lv_iconst (v := b2i false) hx hb dX1_isCrowded_52 (by decide +kernel) ?_
            exact r_zX hx hb hr (by rw [crowd_no2 (show i = 16 by omega) c_71]) dX1_isCrowded_53 hlocks
          · skip
            refine lv_iconst (v := b2i true) hx hb dX1_isCrowded_48 (by decide +kernel) ?_
            refine lv_goto (tgt := 53) hx hb dX1_isCrowded_49 (by decide) ?_
            exact r_zX hx hb hr (by rw [crowd_yes (show i = 16 by omega) c_69 c_71]) dX1_isCrowded_53 hlocks
        · skip
          refine lv_aload_n hx hb dX1_isCrowded_21 rfl (lv_at hl 2 rfl) ?_
          refine lv_bipush (v := nI 16) hx hb dX1_isCrowded_22 (by decide +kernel) ?_
          refine lv_iload_n hx hb dX1_isCrowded_24 rfl (lv_at hl 3 rfl) ?_
          refine lv_imul hx hb dX1_isCrowded_25 ?_
          refine lv_topi (nm_r (show (nI 16) * (nI k) = nI (16 * (k)) from pk_mul _ _) ?_)
          refine lv_iload_n hx hb dX1_isCrowded_26 rfl (lv_at hl 0 rfl) ?_
          refine lv_iadd hx hb dX1_isCrowded_27 ?_
          refine lv_topi (nm_r (show (nI (16 * (k))) + (nI i) = nI (16 * (k) + i) from nI_add _ _) ?_)
          refine k_callX (va_runV (As := [.int (nI (16 * (k) + i))]) (rest := []) ⟨hx, hb, hml, hown, hts⟩ (c_X1_has l D g H a w f ho hw (16 * (k) + i) (by omega)) (cwV 1 hts gX1_isCrowded_X1_has rfl rfl rfl (by decide +kernel) ⟨Nat.le_of_ble_eq_true rfl, Nat.le_of_ble_eq_true rfl⟩) ⟨kPc_blind, k_recv hK ho rfl, fun U hU hW => kPc_at hK hU hW⟩ rfl rfl hl.1 rfl (lv_room (Nat.le_of_ble_eq_true rfl)) dX1_isCrowded_28 ⟨Nat.le_of_ble_eq_true rfl, Nat.le_of_ble_eq_true rfl⟩) ?_
          refine z_if_eq (tgt := 37) hx hb dX1_isCrowded_31 (by decide) (fun c_72 => ?_) (fun c_72 => ?_)
          · skip
            refine lv_iinc (v := nI (i + 1)) (lv' := [(3, .int (nI (i + 1))), (2, .int (nI (cnt (fun o => bt f (16 * k + o)) i))), (0, .ref a), (1, .int (nI k))]) hx hb dX1_isCrowded_37 hl (k := 0) rfl (nI_add (i) 1) (by decide) rfl (fun ls hl => ?_)
            refine lv_goto (tgt := 15) hx hb dX1_isCrowded_40 (by decide) ?_
            have e := cnt_f (p := fun o => bt f (16 * k + o)) (n := i) c_72
            have hl2 := (lv_sub hl [0, 1, 2, 3] rfl)
            exact ih (i + 1) (by omega) (by omega) ls (by rw [e]; exact hl2)
          · skip
            refine lv_iinc (v := nI (cnt (fun o => bt f (16 * k + o)) i + 1)) (lv' := [(2, .int (nI (cnt (fun o => bt f (16 * k + o)) i + 1))), (3, .int (nI i)), (0, .ref a), (1, .int (nI k))]) hx hb dX1_isCrowded_34 hl (k := 1) rfl (nI_add (cnt (fun o => bt f (16 * k + o)) i) 1) (by decide) rfl (fun ls hl => ?_)
            refine lv_iinc (v := nI (i + 1)) (lv' := [(3, .int (nI (i + 1))), (2, .int (nI (cnt (fun o => bt f (16 * k + o)) i + 1))), (0, .ref a), (1, .int (nI k))]) hx hb dX1_isCrowded_37 hl (k := 1) rfl (nI_add (i) 1) (by decide) rfl (fun ls hl => ?_)
            refine lv_goto (tgt := 15) hx hb dX1_isCrowded_40 (by decide) ?_
            have e := cnt_t (p := fun o => bt f (16 * k + o)) (n := i) c_72
            have hl2 := (lv_sub hl [0, 1, 2, 3] rfl)
            exact ih (i + 1) (by omega) (by omega) ls (by rw [e]; exact hl2)
    exact loop 17 0 (by omega) (by omega) ls (lv_sub hl [0, 1, 2, 3] rfl)
  · skip
    refine lv_iconst (v := b2i false) hx hb dX1_isCrowded_9 (by decide +kernel) ?_
    exact r_zX hx hb hr (by rw [crowd_no1 c_69]) dX1_isCrowded_10 hlocks
set_option maxHeartbeats 4000000 in
set_option maxRecDepth 100000 in
/-- crowdedKeys() -/
theorem c_X1_crowdedKeys (l : Launch) (D : va_G) (g : Nat → ClassId) (H : Heap) (a w : Nat) (f : Nat → Int64) (ho : HA D H a (eO 1 [.ref w])) (hw : HA D H w (eL (g 2) 64 f)) : Met l yX1_crowdedKeys wsX1_crowdedKeys ({ frames := 3, cells := 0, slots := 0, locals := 64 } : Room) (kPc D g [.ref a] H) (kX (.int (nI (cnt (crowd (bt f)) 256))) H) 0 0 kN := by
  refine Met.ofW (cc := cX1_crowdedKeys) (maxL := 3) (ret := (some .int)) (by decide) rfl ?_
  intro p e s m args below meth c s₁ B hml hv
  obtain ⟨rfl, hH, hK⟩ := hv
  have hx := B.exec
  have hb := B.bytes
  have hr := B.returns
  have hts := atoms_spec (ws := wsX1_crowdedKeys) B.pre
  have hown : s.vm.findClass RX1 = some m.cls := findClass_of_methodNamed B.named
  have hlocks := B.notSynchronized
  rw [hH]
  have hl := lv_entry ([.ref a]) (n := 3) (Nat.le_of_ble_eq_true rfl)
  rw [lg_entry_eq]
  generalize (lg_sl ([.ref a]) ++ List.replicate (3 - (lg_sl ([.ref a])).length) Slot.unset).toArray = ls at hl ⊢
  have hl : lv_has ls 3 [(0, .ref a)] := hl
  refine lv_iconst (v := nI 0) hx hb dX1_crowdedKeys_0 (by decide +kernel) ?_
  refine lv_istore_n (lv' := [(1, .int (nI 0)), (0, .ref a)]) hx hb dX1_crowdedKeys_1 rfl hl (by decide) rfl (fun ls hl => ?_)
  refine lv_iconst (v := nI 0) hx hb dX1_crowdedKeys_2 (by decide +kernel) ?_
  refine lv_istore_n (lv' := [(2, .int (nI 0)), (1, .int (nI 0)), (0, .ref a)]) hx hb dX1_crowdedKeys_3 rfl hl (by decide) rfl (fun ls hl => ?_)
  have loop : ∀ (n i : Nat), 256 < i + n → i ≤ 256 → ∀ ls, lv_has ls 3 [(2, .int (nI i)), (1, .int (nI (cnt (crowd (bt f)) i))), (0, .ref a)] → W p l e (headSpec wsX1_crowdedKeys ({ frames := 3, cells := 0, slots := 0, locals := 64 } : Room)).room s m ([.ref a] : List Value).toArray below meth c H [] 0 0 (MQ below (kX (.int (nI (cnt (crowd (bt f)) 256))) H) ([.ref a] : List Value).toArray s 0 0 kN) (F0 m 4 ls []) := by
    intro n
    induction n with
    | zero => intro i h0 h1; omega
    | succ n ih =>
      intro i hn hi ls hl
      have hcl := cnt_le (crowd (bt f)) i
      refine lv_iload_n hx hb dX1_crowdedKeys_4 rfl (lv_at hl 0 rfl) ?_
      refine lv_sipush (v := nI 256) hx hb dX1_crowdedKeys_5 (by decide +kernel) ?_
      refine n_icmp_ge (tgt := 28) hx hb dX1_crowdedKeys_8 (by decide) (by omega) (by omega) (fun c_73 => ?_) (fun c_73 => ?_)
      · skip
        refine lv_iload_n hx hb dX1_crowdedKeys_28 rfl (lv_at hl 1 rfl) ?_
        exact r_iX hx hb hr (by rw [show i = 256 by omega]) dX1_crowdedKeys_29 hlocks
      · skip
        refine lv_aload_n hx hb dX1_crowdedKeys_11 rfl (lv_at hl 2 rfl) ?_
        refine lv_iload_n hx hb dX1_crowdedKeys_12 rfl (lv_at hl 0 rfl) ?_
        refine k_callX (va_runV (As := [.int (nI i)]) (rest := []) ⟨hx, hb, hml, hown, hts⟩ (c_X1_isCrowded l D g H a w f ho hw i (by omega)) (cwV 1 hts gX1_crowdedKeys_X1_isCrowded rfl rfl rfl (by decide +kernel) ⟨Nat.le_of_ble_eq_true rfl, Nat.le_of_ble_eq_true rfl⟩) ⟨kPc_blind, k_recv hK ho rfl, fun U hU hW => kPc_at hK hU hW⟩ rfl rfl hl.1 rfl (lv_room (Nat.le_of_ble_eq_true rfl)) dX1_crowdedKeys_13 ⟨Nat.le_of_ble_eq_true rfl, Nat.le_of_ble_eq_true rfl⟩) ?_
        refine z_if_eq (tgt := 22) hx hb dX1_crowdedKeys_16 (by decide) (fun c_74 => ?_) (fun c_74 => ?_)
        · skip
          refine lv_iinc (v := nI (i + 1)) (lv' := [(2, .int (nI (i + 1))), (1, .int (nI (cnt (crowd (bt f)) i))), (0, .ref a)]) hx hb dX1_crowdedKeys_22 hl (k := 0) rfl (nI_add (i) 1) (by decide) rfl (fun ls hl => ?_)
          refine lv_goto (tgt := 4) hx hb dX1_crowdedKeys_25 (by decide) ?_
          have e := cnt_f (p := crowd (bt f)) (n := i) c_74
          have hl2 := (lv_sub hl [0, 1, 2] rfl)
          exact ih (i + 1) (by omega) (by omega) ls (by rw [e]; exact hl2)
        · skip
          refine lv_iinc (v := nI (cnt (crowd (bt f)) i + 1)) (lv' := [(1, .int (nI (cnt (crowd (bt f)) i + 1))), (2, .int (nI i)), (0, .ref a)]) hx hb dX1_crowdedKeys_19 hl (k := 1) rfl (nI_add (cnt (crowd (bt f)) i) 1) (by decide) rfl (fun ls hl => ?_)
          refine lv_iinc (v := nI (i + 1)) (lv' := [(2, .int (nI (i + 1))), (1, .int (nI (cnt (crowd (bt f)) i + 1))), (0, .ref a)]) hx hb dX1_crowdedKeys_22 hl (k := 1) rfl (nI_add (i) 1) (by decide) rfl (fun ls hl => ?_)
          refine lv_goto (tgt := 4) hx hb dX1_crowdedKeys_25 (by decide) ?_
          have e := cnt_t (p := crowd (bt f)) (n := i) c_74
          have hl2 := (lv_sub hl [0, 1, 2] rfl)
          exact ih (i + 1) (by omega) (by omega) ls (by rw [e]; exact hl2)
  exact loop 257 0 (by omega) (by omega) ls (lv_sub hl [0, 1, 2] rfl)
set_option maxHeartbeats 4000000 in
set_option maxRecDepth 100000 in
/-- crowdedKey(i) -/
theorem c_X1_crowdedKey (l : Launch) (D : va_G) (g : Nat → ClassId) (H : Heap) (a w : Nat) (f : Nat → Int64) (ho : HA D H a (eO 1 [.ref w])) (hw : HA D H w (eL (g 2) 64 f)) (ix : Int32) : Met l yX1_crowdedKey wsX1_crowdedKey ({ frames := 3, cells := 0, slots := 0, locals := 64 } : Room) (kPc D g [.ref a, .int (ix)] H) (kS (Nth (crowd (bt f)) 256 ix) H) 0 0 kN := by
  refine Met.ofW (cc := cX1_crowdedKey) (maxL := 4) (ret := (some .int)) (by decide) rfl ?_
  intro p e s m args below meth c s₁ B hml hv
  obtain ⟨rfl, hH, hK⟩ := hv
  have hx := B.exec
  have hb := B.bytes
  have hr := B.returns
  have hts := atoms_spec (ws := wsX1_crowdedKey) B.pre
  have hown : s.vm.findClass RX1 = some m.cls := findClass_of_methodNamed B.named
  have hlocks := B.notSynchronized
  rw [hH]
  have hl := lv_entry ([.ref a, .int (ix)]) (n := 4) (Nat.le_of_ble_eq_true rfl)
  rw [lg_entry_eq]
  generalize (lg_sl ([.ref a, .int (ix)]) ++ List.replicate (4 - (lg_sl ([.ref a, .int (ix)])).length) Slot.unset).toArray = ls at hl ⊢
  have hl : lv_has ls 4 [(0, .ref a), (1, .int (ix))] := hl
  refine lv_iconst (v := nI 0) hx hb dX1_crowdedKey_0 (by decide +kernel) ?_
  refine lv_istore_n (lv' := [(2, .int (nI 0)), (0, .ref a), (1, .int (ix))]) hx hb dX1_crowdedKey_1 rfl hl (by decide) rfl (fun ls hl => ?_)
  refine lv_iconst (v := nI 0) hx hb dX1_crowdedKey_2 (by decide +kernel) ?_
  refine lv_istore_n (lv' := [(3, .int (nI 0)), (2, .int (nI 0)), (0, .ref a), (1, .int (ix))]) hx hb dX1_crowdedKey_3 rfl hl (by decide) rfl (fun ls hl => ?_)
  have loop : ∀ (n i : Nat), 256 < i + n → i ≤ 256 → (∀ k, k < i → crowd (bt f) k = true → ¬ nI (cnt (crowd (bt f)) k) = ix) → ∀ ls, lv_has ls 4 [(3, .int (nI i)), (2, .int (nI (cnt (crowd (bt f)) i))), (0, .ref a), (1, .int ix)] → W p l e (headSpec wsX1_crowdedKey ({ frames := 3, cells := 0, slots := 0, locals := 64 } : Room)).room s m ([.ref a, .int (ix)] : List Value).toArray below meth c H [] 0 0 (MQ below (kS (Nth (crowd (bt f)) 256 ix) H) ([.ref a, .int (ix)] : List Value).toArray s 0 0 kN) (F0 m 4 ls []) := by
    intro n
    induction n with
    | zero => intro i h0 h1; omega
    | succ n ih =>
      intro i hn hi hv ls hl
      have hcl := cnt_le (crowd (bt f)) i
      refine lv_iload_n hx hb dX1_crowdedKey_4 rfl (lv_at hl 0 rfl) ?_
      refine lv_sipush (v := nI 256) hx hb dX1_crowdedKey_5 (by decide +kernel) ?_
      refine n_icmp_ge (tgt := 35) hx hb dX1_crowdedKey_8 (by decide) (by omega) (by omega) (fun c_75 => ?_) (fun c_75 => ?_)
      · skip
        refine lv_iconst (v := (-1)) hx hb dX1_crowdedKey_35 (by decide +kernel) ?_
        exact r_iS hx hb hr (Or.inr ⟨fun k hk hp => hv k (by omega) hp, rfl⟩) dX1_crowdedKey_36 hlocks
      · skip
        refine lv_aload_n hx hb dX1_crowdedKey_11 rfl (lv_at hl 2 rfl) ?_
        refine lv_iload_n hx hb dX1_crowdedKey_12 rfl (lv_at hl 0 rfl) ?_
        refine k_callX (va_runV (As := [.int (nI i)]) (rest := []) ⟨hx, hb, hml, hown, hts⟩ (c_X1_isCrowded l D g H a w f ho hw i (by omega)) (cwV 1 hts gX1_crowdedKey_X1_isCrowded rfl rfl rfl (by decide +kernel) ⟨Nat.le_of_ble_eq_true rfl, Nat.le_of_ble_eq_true rfl⟩) ⟨kPc_blind, k_recv hK ho rfl, fun U hU hW => kPc_at hK hU hW⟩ rfl rfl hl.1 rfl (lv_room (Nat.le_of_ble_eq_true rfl)) dX1_crowdedKey_13 ⟨Nat.le_of_ble_eq_true rfl, Nat.le_of_ble_eq_true rfl⟩) ?_
        refine z_if_eq (tgt := 29) hx hb dX1_crowdedKey_16 (by decide) (fun c_76 => ?_) (fun c_76 => ?_)
        · skip
          refine lv_iinc (v := nI (i + 1)) (lv' := [(3, .int (nI (i + 1))), (2, .int (nI (cnt (crowd (bt f)) i))), (0, .ref a), (1, .int (ix))]) hx hb dX1_crowdedKey_29 hl (k := 0) rfl (nI_add (i) 1) (by decide) rfl (fun ls hl => ?_)
          refine lv_goto (tgt := 4) hx hb dX1_crowdedKey_32 (by decide) ?_
          have e := cnt_f (p := crowd (bt f)) (n := i) c_76
          have hl2 := (lv_sub hl [0, 1, 2, 3] rfl)
          refine ih (i + 1) (by omega) (by omega) ?_ ls (by rw [e]; exact hl2)
          intro k hk hp
          rcases Nat.lt_or_ge k i with q | q
          · exact hv k q hp
          · rw [show k = i by omega] at hp ⊢
            rw [c_76] at hp; cases hp
        · skip
          refine lv_iload_n hx hb dX1_crowdedKey_19 rfl (lv_at hl 1 rfl) ?_
          refine lv_iload_n hx hb dX1_crowdedKey_20 rfl (lv_at hl 3 rfl) ?_
          refine lv_icmp_ne (tgt := 26) hx hb dX1_crowdedKey_21 (by decide) (fun c_77 => ?_) (fun c_77 => ?_)
          · skip
            refine lv_iinc (v := nI (cnt (crowd (bt f)) i + 1)) (lv' := [(2, .int (nI (cnt (crowd (bt f)) i + 1))), (3, .int (nI i)), (0, .ref a), (1, .int (ix))]) hx hb dX1_crowdedKey_26 hl (k := 1) rfl (nI_add (cnt (crowd (bt f)) i) 1) (by decide) rfl (fun ls hl => ?_)
            refine lv_iinc (v := nI (i + 1)) (lv' := [(3, .int (nI (i + 1))), (2, .int (nI (cnt (crowd (bt f)) i + 1))), (0, .ref a), (1, .int (ix))]) hx hb dX1_crowdedKey_29 hl (k := 1) rfl (nI_add (i) 1) (by decide) rfl (fun ls hl => ?_)
            refine lv_goto (tgt := 4) hx hb dX1_crowdedKey_32 (by decide) ?_
            have e := cnt_t (p := crowd (bt f)) (n := i) c_76
            have hl2 := (lv_sub hl [0, 1, 2, 3] rfl)
            refine ih (i + 1) (by omega) (by omega) ?_ ls (by rw [e]; exact hl2)
            intro k hk hp
            rcases Nat.lt_or_ge k i with q | q
            · exact hv k q hp
            · rw [show k = i by omega] at hp ⊢
              exact c_77
          · skip
            refine lv_iload_n hx hb dX1_crowdedKey_24 rfl (lv_at hl 0 rfl) ?_
            exact r_iS hx hb hr (Or.inl ⟨i, by omega, c_76, c_77, rfl⟩) dX1_crowdedKey_25 hlocks
  exact loop 257 0 (by omega) (by omega) (fun k h => by omega) ls (lv_sub hl [0, 1, 2, 3] rfl)
set_option maxHeartbeats 4000000 in
set_option maxRecDepth 100000 in
theorem c_X1_leastOfKey (l : Launch) (D : va_G) (g : Nat → ClassId) (H : Heap) (a w : Nat) (f : Nat → Int64) (ho : HA D H a (eO 1 [.ref w])) (hw : HA D H w (eL (g 2) 64 f)) (k : Nat) (hk : k < 256) : Met l yX1_leastOfKey wsX1_leastOfKey ({ frames := 2, cells := 0, slots := 0, locals := 41 } : Room) (kPc D g [.ref a, .int (nI k)] H) (kS (fun r => (∃ o, o < 16 ∧ bt f (16 * k + o) = true ∧ (∀ z, z < o → bt f (16 * k + z) = false) ∧ r = nI (16 * k + o)) ∨ ((∀ z, z < 16 → bt f (16 * k + z) = false) ∧ r = -1)) H) 0 0 kN := by
  refine Met.ofW (cc := cX1_leastOfKey) (maxL := 3) (ret := (some .int)) (by decide) rfl ?_
  intro p e s m args below meth c s₁ B hml hv
  obtain ⟨rfl, hH, hK⟩ := hv
  have hx := B.exec
  have hb := B.bytes
  have hr := B.returns
  have hts := atoms_spec (ws := wsX1_leastOfKey) B.pre
  have hown : s.vm.findClass RX1 = some m.cls := findClass_of_methodNamed B.named
  have hlocks := B.notSynchronized
  rw [hH]
  have hl := lv_entry ([.ref a, .int (nI k)]) (n := 3) (Nat.le_of_ble_eq_true rfl)
  rw [lg_entry_eq]
  generalize (lg_sl ([.ref a, .int (nI k)]) ++ List.replicate (3 - (lg_sl ([.ref a, .int (nI k)])).length) Slot.unset).toArray = ls at hl ⊢
  have hl : lv_has ls 3 [(0, .ref a), (1, .int (nI k))] := hl
  refine lv_iconst (v := nI 0) hx hb dX1_leastOfKey_0 (by decide +kernel) ?_
  refine lv_istore_n (lv' := [(2, .int (nI 0)), (0, .ref a), (1, .int (nI k))]) hx hb dX1_leastOfKey_1 rfl hl (by decide) rfl (fun ls hl => ?_)
  have loop : ∀ (n i : Nat), 16 < i + n → i ≤ 16 → (∀ z, z < i → bt f (16 * k + z) = false) → ∀ ls, lv_has ls 3 [(2, .int (nI i)), (0, .ref a), (1, .int (nI k))] → W p l e (headSpec wsX1_leastOfKey ({ frames := 2, cells := 0, slots := 0, locals := 41 } : Room)).room s m ([.ref a, .int (nI k)] : List Value).toArray below meth c H [] 0 0 (MQ below (kS (fun r => (∃ o, o < 16 ∧ bt f (16 * k + o) = true ∧ (∀ z, z < o → bt f (16 * k + z) = false) ∧ r = nI (16 * k + o)) ∨ ((∀ z, z < 16 → bt f (16 * k + z) = false) ∧ r = -1)) H) ([.ref a, .int (nI k)] : List Value).toArray s 0 0 kN) (F0 m 2 ls []) := by
    intro n
    induction n with
    | zero => intro i h0 h1; omega
    | succ n ih =>
      intro i hn hi hv ls hl
      refine lv_iload_n hx hb dX1_leastOfKey_2 rfl (lv_at hl 0 rfl) ?_
      refine lv_bipush (v := nI 16) hx hb dX1_leastOfKey_3 (by decide +kernel) ?_
      refine n_icmp_ge (tgt := 34) hx hb dX1_leastOfKey_5 (by decide) (by omega) (by omega) (fun c_78 => ?_) (fun c_78 => ?_)
      · skip
        refine lv_iconst (v := (-1)) hx hb dX1_leastOfKey_34 (by decide +kernel) ?_
        exact r_iS hx hb hr (Or.inr ⟨fun z hz => hv z (by omega), rfl⟩) dX1_leastOfKey_35 hlocks
      · skip
        refine lv_aload_n hx hb dX1_leastOfKey_8 rfl (lv_at hl 1 rfl) ?_
        refine lv_bipush (v := nI 16) hx hb dX1_leastOfKey_9 (by decide +kernel) ?_
        refine lv_iload_n hx hb dX1_leastOfKey_11 rfl (lv_at hl 2 rfl) ?_
        refine lv_imul hx hb dX1_leastOfKey_12 ?_
        refine lv_topi (nm_r (show (nI 16) * (nI k) = nI (16 * (k)) from pk_mul _ _) ?_)
        refine lv_iload_n hx hb dX1_leastOfKey_13 rfl (lv_at hl 0 rfl) ?_
        refine lv_iadd hx hb dX1_leastOfKey_14 ?_
        refine lv_topi (nm_r (show (nI (16 * (k))) + (nI i) = nI (16 * (k) + i) from nI_add _ _) ?_)
        refine k_callX (va_runV (As := [.int (nI (16 * (k) + i))]) (rest := []) ⟨hx, hb, hml, hown, hts⟩ (c_X1_has l D g H a w f ho hw (16 * (k) + i) (by omega)) (cwV 1 hts gX1_leastOfKey_X1_has rfl rfl rfl (by decide +kernel) ⟨Nat.le_of_ble_eq_true rfl, Nat.le_of_ble_eq_true rfl⟩) ⟨kPc_blind, k_recv hK ho rfl, fun U hU hW => kPc_at hK hU hW⟩ rfl rfl hl.1 rfl (lv_room (Nat.le_of_ble_eq_true rfl)) dX1_leastOfKey_15 ⟨Nat.le_of_ble_eq_true rfl, Nat.le_of_ble_eq_true rfl⟩) ?_
        refine z_if_eq (tgt := 28) hx hb dX1_leastOfKey_18 (by decide) (fun c_79 => ?_) (fun c_79 => ?_)
        · skip
          refine lv_iinc (v := nI (i + 1)) (lv' := [(2, .int (nI (i + 1))), (0, .ref a), (1, .int (nI k))]) hx hb dX1_leastOfKey_28 hl (k := 0) rfl (nI_add (i) 1) (by decide) rfl (fun ls hl => ?_)
          refine lv_goto (tgt := 2) hx hb dX1_leastOfKey_31 (by decide) ?_
          refine ih (i + 1) (by omega) (by omega) ?_ ls (lv_sub hl [0, 1, 2] rfl)
          intro z hz
          rcases Nat.lt_or_ge z i with q | q
          · exact hv z q
          · rw [show z = i by omega]; exact c_79
        · skip
          refine lv_bipush (v := nI 16) hx hb dX1_leastOfKey_21 (by decide +kernel) ?_
          refine lv_iload_n hx hb dX1_leastOfKey_23 rfl (lv_at hl 2 rfl) ?_
          refine lv_imul hx hb dX1_leastOfKey_24 ?_
          refine lv_topi (nm_r (show (nI 16) * (nI k) = nI (16 * (k)) from pk_mul _ _) ?_)
          refine lv_iload_n hx hb dX1_leastOfKey_25 rfl (lv_at hl 0 rfl) ?_
          refine lv_iadd hx hb dX1_leastOfKey_26 ?_
          refine lv_topi (nm_r (show (nI (16 * (k))) + (nI i) = nI (16 * (k) + i) from nI_add _ _) ?_)
          exact r_iS hx hb hr (Or.inl ⟨i, by omega, c_79, hv, rfl⟩) dX1_leastOfKey_27 hlocks
  exact loop 17 0 (by omega) (by omega) (fun z h => by omega) ls (lv_sub hl [0, 1, 2] rfl)
set_option maxHeartbeats 4000000 in
set_option maxRecDepth 100000 in
theorem c_X1_greatestOfKey (l : Launch) (D : va_G) (g : Nat → ClassId) (H : Heap) (a w : Nat) (f : Nat → Int64) (ho : HA D H a (eO 1 [.ref w])) (hw : HA D H w (eL (g 2) 64 f)) (k : Nat) (hk : k < 256) : Met l yX1_greatestOfKey wsX1_greatestOfKey ({ frames := 2, cells := 0, slots := 0, locals := 41 } : Room) (kPc D g [.ref a, .int (nI k)] H) (kS (fun r => (∃ o, o < 16 ∧ bt f (16 * k + o) = true ∧ (∀ z, o < z → z < 16 → bt f (16 * k + z) = false) ∧ r = nI (16 * k + o)) ∨ ((∀ z, z < 16 → bt f (16 * k + z) = false) ∧ r = -1)) H) 0 0 kN := by
  refine Met.ofW (cc := cX1_greatestOfKey) (maxL := 3) (ret := (some .int)) (by decide) rfl ?_
  intro p e s m args below meth c s₁ B hml hv
  obtain ⟨rfl, hH, hK⟩ := hv
  have hx := B.exec
  have hb := B.bytes
  have hr := B.returns
  have hts := atoms_spec (ws := wsX1_greatestOfKey) B.pre
  have hown : s.vm.findClass RX1 = some m.cls := findClass_of_methodNamed B.named
  have hlocks := B.notSynchronized
  rw [hH]
  have hl := lv_entry ([.ref a, .int (nI k)]) (n := 3) (Nat.le_of_ble_eq_true rfl)
  rw [lg_entry_eq]
  generalize (lg_sl ([.ref a, .int (nI k)]) ++ List.replicate (3 - (lg_sl ([.ref a, .int (nI k)])).length) Slot.unset).toArray = ls at hl ⊢
  have hl : lv_has ls 3 [(0, .ref a), (1, .int (nI k))] := hl
  refine lv_bipush (v := nI 15) hx hb dX1_greatestOfKey_0 (by decide +kernel) ?_
  refine lv_istore_n (lv' := [(2, .int (nI 15)), (0, .ref a), (1, .int (nI k))]) hx hb dX1_greatestOfKey_2 rfl hl (by decide) rfl (fun ls hl => ?_)
  have loop : ∀ (n i : Nat) (y : Int32), i < n → i ≤ 16 → y = nI i - 1 → (∀ z, i ≤ z → z < 16 → bt f (16 * k + z) = false) → ∀ ls, lv_has ls 3 [(2, .int y), (0, .ref a), (1, .int (nI k))] → W p l e (headSpec wsX1_greatestOfKey ({ frames := 2, cells := 0, slots := 0, locals := 41 } : Room)).room s m ([.ref a, .int (nI k)] : List Value).toArray below meth c H [] 0 0 (MQ below (kS (fun r => (∃ o, o < 16 ∧ bt f (16 * k + o) = true ∧ (∀ z, o < z → z < 16 → bt f (16 * k + z) = false) ∧ r = nI (16 * k + o)) ∨ ((∀ z, z < 16 → bt f (16 * k + z) = false) ∧ r = -1)) H) ([.ref a, .int (nI k)] : List Value).toArray s 0 0 kN) (F0 m 3 ls []) := by
    intro n
    induction n with
    | zero => intro i y h0 h1; omega
    | succ n ih =>
      intro i y hn hi hy hv ls hl
      cases i with
      | zero =>
        refine lv_iload_n hx hb dX1_greatestOfKey_3 rfl (lv_at hl 0 rfl) ?_
        refine lv_if_lt (tgt := 33) hx hb dX1_greatestOfKey_4 (by decide) (fun _ => ?_) (fun q => absurd (by rw [hy]; decide +kernel) q)
        refine lv_iconst (v := (-1)) hx hb dX1_greatestOfKey_33 (by decide +kernel) ?_
        exact r_iS hx hb hr (Or.inr ⟨fun z hz => hv z (Nat.zero_le _) hz, rfl⟩) dX1_greatestOfKey_34 hlocks
      | succ i =>
        obtain rfl : y = nI i := hy.trans (nI_pred i)
        refine lv_iload_n hx hb dX1_greatestOfKey_3 rfl (lv_at hl 0 rfl) ?_
        refine n_if_lt (tgt := 33) hx hb dX1_greatestOfKey_4 (by decide) (by omega) ?_
        refine lv_aload_n hx hb dX1_greatestOfKey_7 rfl (lv_at hl 1 rfl) ?_
        refine lv_bipush (v := nI 16) hx hb dX1_greatestOfKey_8 (by decide +kernel) ?_
        refine lv_iload_n hx hb dX1_greatestOfKey_10 rfl (lv_at hl 2 rfl) ?_
        refine lv_imul hx hb dX1_greatestOfKey_11 ?_
        refine lv_topi (nm_r (show (nI 16) * (nI k) = nI (16 * (k)) from pk_mul _ _) ?_)
        refine lv_iload_n hx hb dX1_greatestOfKey_12 rfl (lv_at hl 0 rfl) ?_
        refine lv_iadd hx hb dX1_greatestOfKey_13 ?_
        refine lv_topi (nm_r (show (nI (16 * (k))) + (nI i) = nI (16 * (k) + i) from nI_add _ _) ?_)
        refine k_callX (va_runV (As := [.int (nI (16 * (k) + i))]) (rest := []) ⟨hx, hb, hml, hown, hts⟩ (c_X1_has l D g H a w f ho hw (16 * (k) + i) (by omega)) (cwV 1 hts gX1_greatestOfKey_X1_has rfl rfl rfl (by decide +kernel) ⟨Nat.le_of_ble_eq_true rfl, Nat.le_of_ble_eq_true rfl⟩) ⟨kPc_blind, k_recv hK ho rfl, fun U hU hW => kPc_at hK hU hW⟩ rfl rfl hl.1 rfl (lv_room (Nat.le_of_ble_eq_true rfl)) dX1_greatestOfKey_14 ⟨Nat.le_of_ble_eq_true rfl, Nat.le_of_ble_eq_true rfl⟩) ?_
        refine z_if_eq (tgt := 27) hx hb dX1_greatestOfKey_17 (by decide) (fun c_81 => ?_) (fun c_81 => ?_)
        · skip
          refine lv_iinc (v := (nI i) + -1) (lv' := [(2, .int ((nI i) + -1)), (0, .ref a), (1, .int (nI k))]) hx hb dX1_greatestOfKey_27 hl (k := 0) rfl rfl (by decide) rfl (fun ls hl => ?_)
          refine lv_goto (tgt := 3) hx hb dX1_greatestOfKey_30 (by decide) ?_
          refine ih i _ (by omega) (by omega) (Int32.sub_eq_add_neg _ _).symm ?_ ls (lv_sub hl [0, 1, 2] rfl)
          intro z hz hz2
          rcases Nat.lt_or_ge i z with q | q
          · exact hv z q hz2
          · rw [show z = i by omega]; exact c_81
        · skip
          refine lv_bipush (v := nI 16) hx hb dX1_greatestOfKey_20 (by decide +kernel) ?_
          refine lv_iload_n hx hb dX1_greatestOfKey_22 rfl (lv_at hl 2 rfl) ?_
          refine lv_imul hx hb dX1_greatestOfKey_23 ?_
          refine lv_topi (nm_r (show (nI 16) * (nI k) = nI (16 * (k)) from pk_mul _ _) ?_)
          refine lv_iload_n hx hb dX1_greatestOfKey_24 rfl (lv_at hl 0 rfl) ?_
          refine lv_iadd hx hb dX1_greatestOfKey_25 ?_
          refine lv_topi (nm_r (show (nI (16 * (k))) + (nI i) = nI (16 * (k) + i) from nI_add _ _) ?_)
          exact r_iS hx hb hr (Or.inl ⟨i, by omega, c_81, fun z h1 h2 => hv z h1 h2, rfl⟩) dX1_greatestOfKey_26 hlocks
  exact loop 17 16 _ (by omega) (by omega) (by decide +kernel) (fun z h1 h2 => by omega) ls (lv_sub hl [0, 1, 2] rfl)
set_option maxHeartbeats 4000000 in
set_option maxRecDepth 100000 in
/-- tripleInWord: -1 or a triple -/
theorem c_X1_tripleInWord_w (l : Launch) (D : va_G) (g : Nat → ClassId) (H : Heap) (a w : Nat) (f : Nat → Int64) (ho : HA D H a (eO 1 [.ref w])) (hw : HA D H w (eL (g 2) 64 f)) (k : Nat) (hk : k < 64) (ix : Int32) : Met l yX1_tripleInWord wsX1_tripleInWord ({ frames := 2, cells := 0, slots := 0, locals := 41 } : Room) (kPc D g [.ref a, .int (nI k), .int (ix)] H) (kS (fun r => r = -1 ∨ ∃ t, t < 4096 ∧ r = nI t) H) 0 0 kN := by
  refine Met.ofW (cc := cX1_tripleInWord) (maxL := 5) (ret := (some .int)) (by decide) rfl ?_
  intro p e s m args below meth c s₁ B hml hv
  obtain ⟨rfl, hH, hK⟩ := hv
  have hx := B.exec
  have hb := B.bytes
  have hr := B.returns
  have hts := atoms_spec (ws := wsX1_tripleInWord) B.pre
  have hown : s.vm.findClass RX1 = some m.cls := findClass_of_methodNamed B.named
  have hlocks := B.notSynchronized
  rw [hH]
  have hl := lv_entry ([.ref a, .int (nI k), .int (ix)]) (n := 5) (Nat.le_of_ble_eq_true rfl)
  rw [lg_entry_eq]
  generalize (lg_sl ([.ref a, .int (nI k), .int (ix)]) ++ List.replicate (5 - (lg_sl ([.ref a, .int (nI k), .int (ix)])).length) Slot.unset).toArray = ls at hl ⊢
  have hl : lv_has ls 5 [(0, .ref a), (1, .int (nI k)), (2, .int (ix))] := hl
  refine lv_iload_n hx hb dX1_tripleInWord_0 rfl (lv_at hl 2 rfl) ?_
  refine lv_istore_n (lv' := [(3, .int (ix)), (0, .ref a), (1, .int (nI k)), (2, .int (ix))]) hx hb dX1_tripleInWord_1 rfl hl (by decide) rfl (fun ls hl => ?_)
  refine lv_bipush (v := nI 64) hx hb dX1_tripleInWord_2 (by decide +kernel) ?_
  refine lv_iload_n hx hb dX1_tripleInWord_4 rfl (lv_at hl 2 rfl) ?_
  refine lv_imul hx hb dX1_tripleInWord_5 ?_
  refine lv_topi (nm_r (show (nI 64) * (nI k) = nI (64 * (k)) from pk_mul _ _) ?_)
  refine lv_istore (lv' := [(4, .int (nI (64 * (k)))), (3, .int (ix)), (0, .ref a), (1, .int (nI k)), (2, .int (ix))]) hx hb dX1_tripleInWord_6 hl (by decide) rfl (fun ls hl => ?_)
  have loop : ∀ (n i : Nat) (y : Int32), 64 < i + n → i ≤ 64 → ∀ ls, lv_has ls 5 [(4, .int (nI (64 * k + i))), (3, .int y), (0, .ref a), (1, .int (nI k)), (2, .int ix)] → W p l e (headSpec wsX1_tripleInWord ({ frames := 2, cells := 0, slots := 0, locals := 41 } : Room)).room s m ([.ref a, .int (nI k), .int (ix)] : List Value).toArray below meth c H [] 0 0 (MQ below (kS (fun r => r = -1 ∨ ∃ t, t < 4096 ∧ r = nI t) H) ([.ref a, .int (nI k), .int (ix)] : List Value).toArray s 0 0 kN) (F0 m 8 ls []) := by
    intro n
    induction n with
    | zero => intro i y h0 h1; omega
    | succ n ih =>
      intro i y hn hi ls hl
      refine lv_iload hx hb dX1_tripleInWord_8 (lv_at hl 0 rfl) ?_
      refine lv_bipush (v := nI 64) hx hb dX1_tripleInWord_10 (by decide +kernel) ?_
      refine lv_iload_n hx hb dX1_tripleInWord_12 rfl (lv_at hl 3 rfl) ?_
      refine lv_imul hx hb dX1_tripleInWord_13 ?_
      refine lv_topi (nm_r (show (nI 64) * (nI k) = nI (64 * (k)) from pk_mul _ _) ?_)
      refine lv_bipush (v := nI 64) hx hb dX1_tripleInWord_14 (by decide +kernel) ?_
      refine lv_iadd hx hb dX1_tripleInWord_16 ?_
      refine lv_topi (nm_r (show (nI (64 * (k))) + (nI 64) = nI (64 * (k) + 64) from nI_add _ _) ?_)
      refine n_icmp_ge (tgt := 45) hx hb dX1_tripleInWord_17 (by decide) (by omega) (by omega) (fun c_82 => ?_) (fun c_82 => ?_)
      · skip
        refine lv_iconst (v := (-1)) hx hb dX1_tripleInWord_45 (by decide +kernel) ?_
        exact r_iS hx hb hr (Or.inl rfl) dX1_tripleInWord_46 hlocks
      · skip
        refine lv_aload_n hx hb dX1_tripleInWord_20 rfl (lv_at hl 2 rfl) ?_
        refine lv_iload hx hb dX1_tripleInWord_21 (lv_at hl 0 rfl) ?_
        refine k_callX (va_runV (As := [.int (nI (64 * k + i))]) (rest := []) ⟨hx, hb, hml, hown, hts⟩ (c_X1_has l D g H a w f ho hw (64 * k + i) (by omega)) (cwV 1 hts gX1_tripleInWord_X1_has rfl rfl rfl (by decide +kernel) ⟨Nat.le_of_ble_eq_true rfl, Nat.le_of_ble_eq_true rfl⟩) ⟨kPc_blind, k_recv hK ho rfl, fun U hU hW => kPc_at hK hU hW⟩ rfl rfl hl.1 rfl (lv_room (Nat.le_of_ble_eq_true rfl)) dX1_tripleInWord_23 ⟨Nat.le_of_ble_eq_true rfl, Nat.le_of_ble_eq_true rfl⟩) ?_
        refine z_if_eq (tgt := 39) hx hb dX1_tripleInWord_26 (by decide) (fun c_83 => ?_) (fun c_83 => ?_)
        · skip
          refine lv_iinc (v := nI (64 * k + i + 1)) (lv' := [(4, .int (nI (64 * k + i + 1))), (3, .int (y)), (0, .ref a), (1, .int (nI k)), (2, .int (ix))]) hx hb dX1_tripleInWord_39 hl (k := 0) rfl (nI_add (64 * k + i) 1) (by decide) rfl (fun ls hl => ?_)
          refine lv_goto (tgt := 8) hx hb dX1_tripleInWord_42 (by decide) ?_
          exact ih (i + 1) _ (by omega) (by omega) ls (lv_sub hl [0, 1, 2, 3, 4] rfl)
        · skip
          refine lv_iload_n hx hb dX1_tripleInWord_29 rfl (lv_at hl 1 rfl) ?_
          refine lv_if_ne (tgt := 36) hx hb dX1_tripleInWord_30 (by decide) (fun c_84 => ?_) (fun c_84 => ?_)
          · skip
            refine lv_iinc (v := (y) + -1) (lv' := [(3, .int ((y) + -1)), (4, .int (nI (64 * k + i))), (0, .ref a), (1, .int (nI k)), (2, .int (ix))]) hx hb dX1_tripleInWord_36 hl (k := 1) rfl rfl (by decide) rfl (fun ls hl => ?_)
            refine lv_iinc (v := nI (64 * k + i + 1)) (lv' := [(4, .int (nI (64 * k + i + 1))), (3, .int ((y) + -1)), (0, .ref a), (1, .int (nI k)), (2, .int (ix))]) hx hb dX1_tripleInWord_39 hl (k := 1) rfl (nI_add (64 * k + i) 1) (by decide) rfl (fun ls hl => ?_)
            refine lv_goto (tgt := 8) hx hb dX1_tripleInWord_42 (by decide) ?_
            exact ih (i + 1) _ (by omega) (by omega) ls (lv_sub hl [0, 1, 2, 3, 4] rfl)
          · skip
            refine lv_iload hx hb dX1_tripleInWord_33 (lv_at hl 0 rfl) ?_
            exact r_iS hx hb hr (Or.inr ⟨64 * k + i, by omega, rfl⟩) dX1_tripleInWord_35 hlocks
  exact loop 65 0 _ (by omega) (by omega) ls (lv_sub hl [0, 1, 2, 3, 4] rfl)
set_option maxHeartbeats 4000000 in
set_option maxRecDepth 100000 in
/-- tripleAt: -1 or a triple -/
theorem c_X1_tripleAt_w (l : Launch) (D : va_G) (g : Nat → ClassId) (H : Heap) (a w : Nat) (f : Nat → Int64) (ho : HA D H a (eO 1 [.ref w])) (hw : HA D H w (eL (g 2) 64 f)) (ix : Int32) : Met l yX1_tripleAt wsX1_tripleAt ({ frames := 3, cells := 0, slots := 0, locals := 65 } : Room) (kPc D g [.ref a, .int (ix)] H) (kS (fun r => r = -1 ∨ ∃ t, t < 4096 ∧ r = nI t) H) 0 0 kN := by
  refine Met.ofW (cc := cX1_tripleAt) (maxL := 5) (ret := (some .int)) (by decide) rfl ?_
  intro p e s m args below meth c s₁ B hml hv
  obtain ⟨rfl, hH, hK⟩ := hv
  have hx := B.exec
  have hb := B.bytes
  have hr := B.returns
  have hts := atoms_spec (ws := wsX1_tripleAt) B.pre
  have hown : s.vm.findClass RX1 = some m.cls := findClass_of_methodNamed B.named
  have hlocks := B.notSynchronized
  rw [hH]
  have hl := lv_entry ([.ref a, .int (ix)]) (n := 5) (Nat.le_of_ble_eq_true rfl)
  rw [lg_entry_eq]
  generalize (lg_sl ([.ref a, .int (ix)]) ++ List.replicate (5 - (lg_sl ([.ref a, .int (ix)])).length) Slot.unset).toArray = ls at hl ⊢
  have hl : lv_has ls 5 [(0, .ref a), (1, .int (ix))] := hl
  refine lv_iload_n hx hb dX1_tripleAt_0 rfl (lv_at hl 1 rfl) ?_
  refine lv_istore_n (lv' := [(2, .int (ix)), (0, .ref a), (1, .int (ix))]) hx hb dX1_tripleAt_1 rfl hl (by decide) rfl (fun ls hl => ?_)
  refine lv_iconst (v := nI 0) hx hb dX1_tripleAt_2 (by decide +kernel) ?_
  refine lv_istore_n (lv' := [(3, .int (nI 0)), (2, .int (ix)), (0, .ref a), (1, .int (ix))]) hx hb dX1_tripleAt_3 rfl hl (by decide) rfl (fun ls hl => ?_)
  have loop : ∀ (n i : Nat) (y : Int32), 64 < i + n → i ≤ 64 → ∀ ls, lv_has ls 5 [(3, .int (nI i)), (2, .int y), (0, .ref a), (1, .int ix)] → W p l e (headSpec wsX1_tripleAt ({ frames := 3, cells := 0, slots := 0, locals := 65 } : Room)).room s m ([.ref a, .int (ix)] : List Value).toArray below meth c H [] 0 0 (MQ below (kS (fun r => r = -1 ∨ ∃ t, t < 4096 ∧ r = nI t) H) ([.ref a, .int (ix)] : List Value).toArray s 0 0 kN) (F0 m 4 ls []) := by
    intro n
    induction n with
    | zero => intro i y h0 h1; omega
    | succ n ih =>
      intro i y hn hi ls hl
      refine lv_iload_n hx hb dX1_tripleAt_4 rfl (lv_at hl 0 rfl) ?_
      refine lv_bipush (v := nI 64) hx hb dX1_tripleAt_5 (by decide +kernel) ?_
      refine n_icmp_ge (tgt := 49) hx hb dX1_tripleAt_7 (by decide) (by omega) (by omega) (fun c_85 => ?_) (fun c_85 => ?_)
      · skip
        refine lv_iconst (v := (-1)) hx hb dX1_tripleAt_49 (by decide +kernel) ?_
        exact r_iS hx hb hr (Or.inl rfl) dX1_tripleAt_50 hlocks
      · skip
        refine lv_iload_n hx hb dX1_tripleAt_10 rfl (lv_at hl 1 rfl) ?_
        refine lv_if_lt (tgt := 49) hx hb dX1_tripleAt_11 (by decide) (fun c_86 => ?_) (fun c_86 => ?_)
        · skip
          refine lv_iconst (v := (-1)) hx hb dX1_tripleAt_49 (by decide +kernel) ?_
          exact r_iS hx hb hr (Or.inl rfl) dX1_tripleAt_50 hlocks
        · skip
          refine lv_aload_n hx hb dX1_tripleAt_14 rfl (lv_at hl 2 rfl) ?_
          refine k_get (ci := 1) (C := RX1) (T := TX1) (N := 1) (v := .ref w) hx hb hts (by decide +kernel) hown hK ho rfl 0 (by decide) rfl (hts (.fieldLink RX1 9 RX1 "words" "[J") (by decide +kernel)) rfl dX1_tripleAt_15 ?_
          refine lv_iload_n hx hb dX1_tripleAt_18 rfl (lv_at hl 0 rfl) ?_
          refine k_lald hx hb hK hw (i) rfl (by omega) (by omega) dX1_tripleAt_19 ?_
          refine k_callS (va_runS (As := [.long (f (i))]) (rest := []) ⟨hx, hb, hml, hown, hts⟩ (c_J13_bitCount_w l D g H (f i)) (va_cwS 1 hts gX1_tripleAt_J13_bitCount_95d88 rfl rfl rfl (by decide +kernel) ⟨Nat.le_of_ble_eq_true rfl, Nat.le_of_ble_eq_true rfl⟩) ⟨kPc_blind, fun U hU hW => kPc_at hK hU hW⟩ rfl rfl hl.1 rfl (lv_room (Nat.le_of_ble_eq_true rfl)) dX1_tripleAt_20 ⟨Nat.le_of_ble_eq_true rfl, Nat.le_of_ble_eq_true rfl⟩) (fun bc _ => ?_)
          refine lv_istore (lv' := [(4, .int (bc)), (3, .int (nI i)), (2, .int (y)), (0, .ref a), (1, .int (ix))]) hx hb dX1_tripleAt_23 hl (by decide) rfl (fun ls hl => ?_)
          refine lv_iload_n hx hb dX1_tripleAt_25 rfl (lv_at hl 2 rfl) ?_
          refine lv_iload hx hb dX1_tripleAt_26 (lv_at hl 0 rfl) ?_
          refine lv_icmp_ge (tgt := 38) hx hb dX1_tripleAt_28 (by decide) (fun c_87 => ?_) (fun c_87 => ?_)
          · skip
            refine lv_iload_n hx hb dX1_tripleAt_38 rfl (lv_at hl 2 rfl) ?_
            refine lv_iload hx hb dX1_tripleAt_39 (lv_at hl 0 rfl) ?_
            refine lv_isub hx hb dX1_tripleAt_41 ?_
            refine lv_istore_n (lv' := [(2, .int ((y) - (bc))), (4, .int (bc)), (3, .int (nI i)), (0, .ref a), (1, .int (ix))]) hx hb dX1_tripleAt_42 rfl hl (by decide) rfl (fun ls hl => ?_)
            refine lv_iinc (v := nI (i + 1)) (lv' := [(3, .int (nI (i + 1))), (2, .int ((y) - (bc))), (4, .int (bc)), (0, .ref a), (1, .int (ix))]) hx hb dX1_tripleAt_43 hl (k := 2) rfl (nI_add (i) 1) (by decide) rfl (fun ls hl => ?_)
            refine lv_goto (tgt := 4) hx hb dX1_tripleAt_46 (by decide) ?_
            exact ih (i + 1) _ (by omega) (by omega) ls (lv_sub hl [0, 1, 3, 4] rfl)
          · skip
            refine lv_aload_n hx hb dX1_tripleAt_31 rfl (lv_at hl 3 rfl) ?_
            refine lv_iload_n hx hb dX1_tripleAt_32 rfl (lv_at hl 1 rfl) ?_
            refine lv_iload_n hx hb dX1_tripleAt_33 rfl (lv_at hl 2 rfl) ?_
            refine k_callS (va_runV (As := [.int (nI i), .int (y)]) (rest := []) ⟨hx, hb, hml, hown, hts⟩ (c_X1_tripleInWord_w l D g H a w f ho hw i (by omega) y) (cwV 2 hts gX1_tripleAt_X1_tripleInWord rfl rfl rfl (by decide +kernel) ⟨Nat.le_of_ble_eq_true rfl, Nat.le_of_ble_eq_true rfl⟩) ⟨kPc_blind, k_recv hK ho rfl, fun U hU hW => kPc_at hK hU hW⟩ rfl rfl hl.1 rfl (lv_room (Nat.le_of_ble_eq_true rfl)) dX1_tripleAt_34 ⟨Nat.le_of_ble_eq_true rfl, Nat.le_of_ble_eq_true rfl⟩) (fun r hr2 => ?_)
            exact r_iS hx hb hr (hr2) dX1_tripleAt_37 hlocks
  exact loop 65 0 _ (by omega) (by omega) ls (lv_sub hl [0, 1, 2, 3] rfl)

/-! 10: makers: sets, branches, versions; ancestors (laid by wip/gen/cls10.py) -/
set_option maxHeartbeats 4000000 in
set_option maxRecDepth 100000 in
/-- TripleSet(): words of zeros -/
theorem c_X1_init (l : Launch) (D : va_G) (g : Nat → ClassId) (b0 : Nat) (H : Heap) (q0 : Nat) (ho : HA D H q0 (eO 1 [.null])) (hb0 : b0 ≤ q0) (hbH : b0 ≤ H.size) : Met l yX1_init wsX1_init ({ frames := 1, cells := 1, slots := 64, locals := 12 } : Room) (kPc D g [.ref q0] H) (kU (fun H1 => ∃ w, H.size ≤ w ∧ HA D H1 q0 (eO 1 [.ref w]) ∧ HA D H1 w (eL (g 2) 64 (fun _ => 0)) ∧ Chg H H1 q0)) 1 64 (kF b0) := by
  refine Met.ofW (cc := cX1_init) (maxL := 1) (ret := none) (by decide) rfl ?_
  intro p e s m args below meth c s₁ B hml hv
  obtain ⟨rfl, hH, hK⟩ := hv
  have hx := B.exec
  have hb := B.bytes
  have hr := B.returns
  have hts := atoms_spec (ws := wsX1_init) B.pre
  have hown : s.vm.findClass RX1 = some m.cls := findClass_of_methodNamed B.named
  have hlocks := B.notSynchronized
  have hin : meth.name = "<init>" := (name_of_methodNamed B.named B.method).1
  rw [hH]
  have hl := lv_entry ([.ref q0]) (n := 1) (Nat.le_of_ble_eq_true rfl)
  rw [lg_entry_eq]
  generalize (lg_sl ([.ref q0]) ++ List.replicate (1 - (lg_sl ([.ref q0])).length) Slot.unset).toArray = ls at hl ⊢
  have hl : lv_has ls 1 [(0, .ref q0)] := hl
  have hlt0 := ho.lt
  have hF0 : Fr (fun x => x = q0) H H := Fr.rf
  refine lv_aload_n hx hb dX1_init_0 rfl (lv_at hl 0 rfl) ?_
  refine W.objInit hx hb hown (hts (.methodLink RX1 3 objectInit) (by decide +kernel)) (hts (.instanceMethod objectInit) (by decide +kernel)) (hts (.code objectInit ⟨#[0xb1]⟩ 1 none) (by decide +kernel)) rfl (by rw [hml]; exact hl.1) rfl dX1_init_1 (Nat.le_of_ble_eq_true rfl) (Nat.le_of_ble_eq_true rfl) ?_
  refine W.eq (g2 := F0 m 4 ls []) rfl ?_
  refine lv_aload_n hx hb dX1_init_4 rfl (lv_at hl 0 rfl) ?_
  refine lv_bipush (v := nI 64) hx hb dX1_init_5 (by decide +kernel) ?_
  refine k_newa (atype := .long) hx hb (hts (.arrayClass .long) (by decide +kernel)) hK 2 (ty := .long) rfl rfl rfl (64, .inr (.inl (fun _ => 0))) (fun _ => rfl) (by decide +kernel) (by decide +kernel) (Nat.le_of_ble_eq_true rfl) (Nat.le_of_ble_eq_true rfl) (Nat.le_of_ble_eq_true rfl) dX1_init_7 (fun q_88 H_89 hw_90 hA_91 => ?_)
  refine W.widen (k := 1) (n := 64) (Nat.le_of_ble_eq_true rfl) (Nat.le_of_ble_eq_true rfl) ?_
  have hqe_q_88 := hA_91.1
  have ho_92 := ho.add hA_91
  have hF_93 := hF0.add hA_91
  have hz_94 := hA_91.2.1
  refine k_putF (ci := 1) (T := TX1) (N := 1) (v := .ref q_88) hx hb hts (by decide +kernel) tyX1 tyX1_ok nmX1 hown (hin) hK ho_92 LB.nil hb0 rfl 0 (by decide) rfl (hts (.fieldLink RX1 9 RX1 "words" "[J") (by decide +kernel)) rfl (ty := .array .long) (by decide +kernel) rfl rfl (Nat.le_of_ble_eq_true rfl) dX1_init_9 (fun H_95 locs_96 ho_97 hC_98 hLB_99 => ?_)
  have ho_97 : HA D H_95 q0 (eO 1 [.ref q_88]) := ho_97
  have hw_100 := hw_90.chg hC_98 (by omega)
  have hF_101 := hF_93.chg hC_98 (Or.inl rfl)
  have hz_102 := hC_98.1
  exact r_vU hx hb hr hLB_99 (Nat.le_refl _) (Nat.le_refl _) ⟨q_88, by omega, ho_97, hw_100, hF_101.to (fun _ h => h)⟩ dX1_init_12 hlocks
set_option maxHeartbeats 4000000 in
set_option maxRecDepth 100000 in
/-- Branch(head) -/
theorem c_X0_init (l : Launch) (D : va_G) (g : Nat → ClassId) (b0 : Nat) (H : Heap) (q0 : Nat) (ho : HA D H q0 (eO 0 [.null])) (hb0 : b0 ≤ q0) (v : Nat) : Met l yX0_init wsX0_init ({ frames := 1, cells := 0, slots := 0, locals := 12 } : Room) (kPc D g [.ref q0, .ref v] H) (kU (fun H1 => HA D H1 q0 (eO 0 [.ref v]) ∧ Chg H H1 q0)) 0 0 (kF b0) := by
  refine Met.ofW (cc := cX0_init) (maxL := 2) (ret := none) (by decide) rfl ?_
  intro p e s m args below meth c s₁ B hml hv
  obtain ⟨rfl, hH, hK⟩ := hv
  have hx := B.exec
  have hb := B.bytes
  have hr := B.returns
  have hts := atoms_spec (ws := wsX0_init) B.pre
  have hown : s.vm.findClass RX0 = some m.cls := findClass_of_methodNamed B.named
  have hlocks := B.notSynchronized
  have hin : meth.name = "<init>" := (name_of_methodNamed B.named B.method).1
  rw [hH]
  have hl := lv_entry ([.ref q0, .ref v]) (n := 2) (Nat.le_of_ble_eq_true rfl)
  rw [lg_entry_eq]
  generalize (lg_sl ([.ref q0, .ref v]) ++ List.replicate (2 - (lg_sl ([.ref q0, .ref v])).length) Slot.unset).toArray = ls at hl ⊢
  have hl : lv_has ls 2 [(0, .ref q0), (1, .ref v)] := hl
  have hlt0 := ho.lt
  have hF0 : Fr (fun x => x = q0) H H := Fr.rf
  refine lv_aload_n hx hb dX0_init_0 rfl (lv_at hl 0 rfl) ?_
  refine W.objInit hx hb hown (hts (.methodLink RX0 1 objectInit) (by decide +kernel)) (hts (.instanceMethod objectInit) (by decide +kernel)) (hts (.code objectInit ⟨#[0xb1]⟩ 1 none) (by decide +kernel)) rfl (by rw [hml]; exact hl.1) rfl dX0_init_1 (Nat.le_of_ble_eq_true rfl) (Nat.le_of_ble_eq_true rfl) ?_
  refine W.eq (g2 := F0 m 4 ls []) rfl ?_
  refine lv_aload_n hx hb dX0_init_4 rfl (lv_at hl 0 rfl) ?_
  refine lv_aload_n hx hb dX0_init_5 rfl (lv_at hl 1 rfl) ?_
  refine k_put (ci := 0) (T := TX0) (N := 1) (v := .ref v) hx hb hts (by decide +kernel) tyX0 tyX0_ok nmX0 hown hK ho LB.nil hb0 rfl 0 (by decide) rfl (hts (.fieldLink RX0 7 RX0 "head" "LVersionMerge$Version;") (by decide +kernel)) rfl (ty := .object "VersionMerge$Version") (by decide +kernel) rfl rfl (Nat.le_of_ble_eq_true rfl) dX0_init_6 (fun H_103 locs_104 ho_105 hC_106 hLB_107 => ?_)
  have ho_105 : HA D H_103 q0 (eO 0 [.ref v]) := ho_105
  have hF_108 := hF0.chg hC_106 (Or.inl rfl)
  have hz_109 := hC_106.1
  exact r_vU hx hb hr hLB_107 (Nat.le_refl _) (Nat.le_refl _) ⟨ho_105, hF_108.to (fun _ h => h)⟩ dX0_init_9 hlocks
set_option maxHeartbeats 4000000 in
set_option maxRecDepth 100000 in
/-- hasAncestor(j) -/
theorem c_X2_hasAncestor (l : Launch) (D : va_G) (g : Nat → ClassId) (H : Heap) (v na : Nat) (n0 : Int32) (u1 u2 u3 : Value) (an : Nat → Bool) (ho : HA D H v (eO 2 [.int n0, u1, u2, u3, .ref na])) (ha : HA D H na (eI (g 3) 400 (fun j => b2i (an j)))) (j : Nat) (hj : j < 400) : Met l yX2_hasAncestor wsX2_hasAncestor ({ frames := 0, cells := 0, slots := 0, locals := 0 } : Room) (kPc D g [.ref v, .int (nI j)] H) (kX (.int (b2i (an j))) H) 0 0 kN := by
  refine Met.ofW (cc := cX2_hasAncestor) (maxL := 2) (ret := (some .boolean)) (by decide) rfl ?_
  intro p e s m args below meth c s₁ B hml hv
  obtain ⟨rfl, hH, hK⟩ := hv
  have hx := B.exec
  have hb := B.bytes
  have hr := B.returns
  have hts := atoms_spec (ws := wsX2_hasAncestor) B.pre
  have hown : s.vm.findClass RX2 = some m.cls := findClass_of_methodNamed B.named
  have hlocks := B.notSynchronized
  rw [hH]
  have hl := lv_entry ([.ref v, .int (nI j)]) (n := 2) (Nat.le_of_ble_eq_true rfl)
  rw [lg_entry_eq]
  generalize (lg_sl ([.ref v, .int (nI j)]) ++ List.replicate (2 - (lg_sl ([.ref v, .int (nI j)])).length) Slot.unset).toArray = ls at hl ⊢
  have hl : lv_has ls 2 [(0, .ref v), (1, .int (nI j))] := hl
  refine lv_iload_n hx hb dX2_hasAncestor_0 rfl (lv_at hl 1 rfl) ?_
  refine n_if_lt (tgt := 24) hx hb dX2_hasAncestor_1 (by decide) (by omega) ?_
  refine lv_iload_n hx hb dX2_hasAncestor_4 rfl (lv_at hl 1 rfl) ?_
  refine lv_sipush (v := nI 400) hx hb dX2_hasAncestor_5 (by decide +kernel) ?_
  refine n_icmp_ge (tgt := 24) hx hb dX2_hasAncestor_8 (by decide) (by omega) (by omega) (fun c_111 => ?_) (fun c_111 => ?_)
  · skip
    refine lv_iconst (v := b2i false) hx hb dX2_hasAncestor_24 (by decide +kernel) ?_
    exact r_zX hx hb hr (absurd hj (by omega)) dX2_hasAncestor_25 hlocks
  · skip
    refine lv_aload_n hx hb dX2_hasAncestor_11 rfl (lv_at hl 0 rfl) ?_
    refine k_get (ci := 2) (C := RX2) (T := TX2) (N := 5) (v := .ref na) hx hb hts (by decide +kernel) hown hK ho rfl 4 (by decide) rfl (hts (.fieldLink RX2 18 RX2 "ancestors" "[Z") (by decide +kernel)) rfl dX2_hasAncestor_12 ?_
    refine lv_iload_n hx hb dX2_hasAncestor_15 rfl (lv_at hl 1 rfl) ?_
    refine k_zald hx hb hK ha (j) rfl (by omega) (by omega) dX2_hasAncestor_16 ?_
    refine z_if_eq (tgt := 24) hx hb dX2_hasAncestor_17 (by decide) (fun c_112 => ?_) (fun c_112 => ?_)
    · skip
      refine lv_iconst (v := b2i false) hx hb dX2_hasAncestor_24 (by decide +kernel) ?_
      exact r_zX hx hb hr (by rw [c_112]) dX2_hasAncestor_25 hlocks
    · skip
      refine lv_iconst (v := b2i true) hx hb dX2_hasAncestor_20 (by decide +kernel) ?_
      refine lv_goto (tgt := 25) hx hb dX2_hasAncestor_21 (by decide) ?_
      exact r_zX hx hb hr (by rw [c_112]) dX2_hasAncestor_25 hlocks
set_option maxHeartbeats 4000000 in
set_option maxRecDepth 100000 in
theorem c_X2_takeAncestors_0 (l : Launch) (D : va_G) (g : Nat → ClassId) (b0 : Nat) (H : Heap) (v : Nat) : Met l yX2_takeAncestors wsX2_takeAncestors ({ frames := 0, cells := 0, slots := 0, locals := 0 } : Room) (kPc D g [.ref v, .null] H) (kU (fun H1 => H1 = H)) 0 0 (kF b0) := by
  refine Met.ofW (cc := cX2_takeAncestors) (maxL := 3) (ret := none) (by decide) rfl ?_
  intro p e s m args below meth c s₁ B hml hv
  obtain ⟨rfl, hH, hK⟩ := hv
  have hx := B.exec
  have hb := B.bytes
  have hr := B.returns
  have hts := atoms_spec (ws := wsX2_takeAncestors) B.pre
  have hown : s.vm.findClass RX2 = some m.cls := findClass_of_methodNamed B.named
  have hlocks := B.notSynchronized
  rw [hH]
  have hl := lv_entry ([.ref v, .null]) (n := 3) (Nat.le_of_ble_eq_true rfl)
  rw [lg_entry_eq]
  generalize (lg_sl ([.ref v, .null]) ++ List.replicate (3 - (lg_sl ([.ref v, .null])).length) Slot.unset).toArray = ls at hl ⊢
  have hl : lv_has ls 3 [(0, .ref v), (1, .null)] := hl
  refine lv_aload_nN hx hb dX2_takeAncestors_0 rfl (lv_at hl 1 rfl) ?_
  refine lv_ifnonnullN hx hb dX2_takeAncestors_1 ?_
  exact r_vU hx hb hr LB.nil (Nat.le_refl _) (Nat.le_refl _) rfl dX2_takeAncestors_4 hlocks
set_option maxHeartbeats 4000000 in
set_option maxRecDepth 100000 in
theorem c_X2_takeAncestors_1 (l : Launch) (D : va_G) (g : Nat → ClassId) (b0 : Nat) (H : Heap) (v na : Nat) (n0 : Int32) (u1 u2 u3 : Value) (an : Nat → Bool) (ho : HA D H v (eO 2 [.int n0, u1, u2, u3, .ref na])) (ha : HA D H na (eI (g 3) 400 (fun j => b2i (an j)))) (hb0 : b0 ≤ na) (vp np : Nat) (n1 : Int32) (t1 t2 t3 : Value) (ap : Nat → Bool) (hop : HA D H vp (eO 2 [.int n1, t1, t2, t3, .ref np])) (hap : HA D H np (eI (g 3) 400 (fun j => b2i (ap j)))) (hvn : v ≠ na) (hvpn : vp ≠ na) (hnpn : np ≠ na) : Met l yX2_takeAncestors wsX2_takeAncestors ({ frames := 0, cells := 0, slots := 0, locals := 0 } : Room) (kPc D g [.ref v, .ref vp] H) (kU (fun H1 => ∃ an1 : Nat → Bool, HA D H1 na (eI (g 3) 400 (fun j => b2i (an1 j))) ∧ Chg H H1 na ∧ ∀ j, j < 400 → an1 j = (an j || ap j))) 0 0 (kF b0) := by
  refine Met.ofW (cc := cX2_takeAncestors) (maxL := 3) (ret := none) (by decide) rfl ?_
  intro p e s m args below meth c s₁ B hml hv
  obtain ⟨rfl, hH, hK⟩ := hv
  have hx := B.exec
  have hb := B.bytes
  have hr := B.returns
  have hts := atoms_spec (ws := wsX2_takeAncestors) B.pre
  have hown : s.vm.findClass RX2 = some m.cls := findClass_of_methodNamed B.named
  have hlocks := B.notSynchronized
  rw [hH]
  have hl := lv_entry ([.ref v, .ref vp]) (n := 3) (Nat.le_of_ble_eq_true rfl)
  rw [lg_entry_eq]
  generalize (lg_sl ([.ref v, .ref vp]) ++ List.replicate (3 - (lg_sl ([.ref v, .ref vp])).length) Slot.unset).toArray = ls at hl ⊢
  have hl : lv_has ls 3 [(0, .ref v), (1, .ref vp)] := hl
  refine lv_aload_n hx hb dX2_takeAncestors_0 rfl (lv_at hl 1 rfl) ?_
  refine lv_ifnonnull (tgt := 5) hx hb dX2_takeAncestors_1 (by decide) ?_
  refine lv_iconst (v := nI 0) hx hb dX2_takeAncestors_5 (by decide +kernel) ?_
  refine lv_istore_n (lv' := [(2, .int (nI 0)), (0, .ref v), (1, .ref vp)]) hx hb dX2_takeAncestors_6 rfl hl (by decide) rfl (fun ls hl => ?_)
  have loop : ∀ (n i : Nat) (H1 : Heap) (locs1 : List Loc) (an1 : Nat → Bool), 400 < i + n → i ≤ 400 → HA D H1 na (eI (g 3) 400 (fun j => b2i (an1 j))) → Chg H H1 na → LB b0 locs1 → (∀ j, j < 400 → an1 j = (an j || (decide (j < i) && ap j))) → ∀ ls, lv_has ls 3 [(2, .int (nI i)), (0, .ref v), (1, .ref vp)] → W p l e (headSpec wsX2_takeAncestors ({ frames := 0, cells := 0, slots := 0, locals := 0 } : Room)).room s m ([.ref v, .ref vp] : List Value).toArray below meth c H1 locs1 0 0 (MQ below (kU (fun H1 => ∃ an1 : Nat → Bool, HA D H1 na (eI (g 3) 400 (fun j => b2i (an1 j))) ∧ Chg H H1 na ∧ ∀ j, j < 400 → an1 j = (an j || ap j))) ([.ref v, .ref vp] : List Value).toArray s 0 0 (kF b0)) (F0 m 7 ls []) := by
    intro n
    induction n with
    | zero => intro i H1 locs1 an1 h0 h1; omega
    | succ n ih =>
      intro i H1 locs1 an1 hn hi hf hC hLB hv ls hl
      have hov := ho.chg hC hvn
      have hovp := hop.chg hC hvpn
      have hapn := hap.chg hC hnpn
      refine lv_iload_n hx hb dX2_takeAncestors_7 rfl (lv_at hl 0 rfl) ?_
      refine lv_sipush (v := nI 400) hx hb dX2_takeAncestors_8 (by decide +kernel) ?_
      refine n_icmp_ge (tgt := 36) hx hb dX2_takeAncestors_11 (by decide) (by omega) (by omega) (fun c_113 => ?_) (fun c_113 => ?_)
      · skip
        exact r_vU hx hb hr hLB (Nat.le_refl _) (Nat.le_refl _) ⟨an1, hf, hC, fun j hj => by rw [hv j hj, show decide (j < i) = true from decide_eq_true (by omega), Bool.true_and]⟩ dX2_takeAncestors_36 hlocks
      · skip
        refine lv_aload_n hx hb dX2_takeAncestors_14 rfl (lv_at hl 2 rfl) ?_
        refine k_get (ci := 2) (C := RX2) (T := TX2) (N := 5) (v := .ref np) hx hb hts (by decide +kernel) hown hK hovp rfl 4 (by decide) rfl (hts (.fieldLink RX2 18 RX2 "ancestors" "[Z") (by decide +kernel)) rfl dX2_takeAncestors_15 ?_
        refine lv_iload_n hx hb dX2_takeAncestors_18 rfl (lv_at hl 0 rfl) ?_
        refine k_zald hx hb hK hapn (i) rfl (by omega) (by omega) dX2_takeAncestors_19 ?_
        refine z_if_eq (tgt := 30) hx hb dX2_takeAncestors_20 (by decide) (fun c_114 => ?_) (fun c_114 => ?_)
        · skip
          refine lv_iinc (v := nI (i + 1)) (lv' := [(2, .int (nI (i + 1))), (0, .ref v), (1, .ref vp)]) hx hb dX2_takeAncestors_30 hl (k := 0) rfl (nI_add (i) 1) (by decide) rfl (fun ls hl => ?_)
          refine lv_goto (tgt := 7) hx hb dX2_takeAncestors_33 (by decide) ?_
          refine ih (i + 1) H1 locs1 an1 (by omega) (by omega) hf hC hLB ?_ ls (lv_sub hl [0, 1, 2] rfl)
          intro j hj
          rw [hv j hj]
          by_cases e : j = i
          · subst e
            rw [c_114, Bool.and_false, Bool.and_false]
          · rw [show decide (j < i + 1) = decide (j < i) from decide_eq_decide.mpr (by omega)]
        · skip
          refine lv_aload_n hx hb dX2_takeAncestors_23 rfl (lv_at hl 1 rfl) ?_
          refine k_get (ci := 2) (C := RX2) (T := TX2) (N := 5) (v := .ref na) hx hb hts (by decide +kernel) hown hK hov rfl 4 (by decide) rfl (hts (.fieldLink RX2 18 RX2 "ancestors" "[Z") (by decide +kernel)) rfl dX2_takeAncestors_24 ?_
          refine lv_iload_n hx hb dX2_takeAncestors_27 rfl (lv_at hl 0 rfl) ?_
          refine lv_iconst (v := b2i true) hx hb dX2_takeAncestors_28 (by decide +kernel) ?_
          refine k_zast (y := b2i true) hx hb hK hf hLB hb0 (i) rfl (by omega) (by omega) (b2i_z _) dX2_takeAncestors_29 (fun H_115 locs_116 hw_117 hC_118 hLB_119 => ?_)
          rw [upd_b2i] at hw_117
          refine lv_iinc (v := nI (i + 1)) (lv' := [(2, .int (nI (i + 1))), (0, .ref v), (1, .ref vp)]) hx hb dX2_takeAncestors_30 hl (k := 0) rfl (nI_add (i) 1) (by decide) rfl (fun ls hl => ?_)
          refine lv_goto (tgt := 7) hx hb dX2_takeAncestors_33 (by decide) ?_
          refine ih (i + 1) H_115 locs_116 _ (by omega) (by omega) hw_117 (hC.tr hC_118) hLB_119 ?_ ls (lv_sub hl [0, 1, 2] rfl)
          intro j hj
          by_cases e : j = i
          · subst e
            rw [up_eq, c_114, show decide (j < j + 1) = true from decide_eq_true (by omega), Bool.true_and, Bool.or_true]
          · rw [up_ne _ _ e, hv j hj, show decide (j < i + 1) = decide (j < i) from decide_eq_decide.mpr (by omega)]
  exact loop 401 0 H [] an (by omega) (by omega) ha Chg.rf LB.nil (fun j hj => by rw [show decide (j < 0) = false from decide_eq_false (Nat.not_lt_zero _), Bool.false_and, Bool.or_false]) ls (lv_sub hl [0, 1, 2] rfl)
set_option maxHeartbeats 4000000 in
set_option maxRecDepth 100000 in
/-- Version(number, first, second, triples) -/
theorem c_X2_init_00 (l : Launch) (D : va_G) (g : Nat → ClassId) (b0 : Nat) (H : Heap) (q0 : Nat) (ho : HA D H q0 (eO 2 [.int 0, .null, .null, .null, .null])) (hb0 : b0 ≤ q0) (hbH : b0 ≤ H.size) (v : Nat) (hv : v < 400) (x wx : Nat) (fx : Nat → Int64) (hox : HA D H x (eO 1 [.ref wx])) (hwx : HA D H wx (eL (g 2) 64 fx)) (hxb : b0 ≤ wx) (hx0 : x ≠ q0) (hwx0 : wx ≠ q0) : Met l yX2_init wsX2_init ({ frames := 2, cells := 3, slots := 465, locals := 61 } : Room) (kPc D g [.ref q0, .int (nI v), .null, .null, .ref x] H) (kU (fun H1 => ∃ (q1 q2 q3 : Nat) (w1 : Nat → Int64) (an1 : Nat → Bool), H.size ≤ q1 ∧ q1 < q2 ∧ q2 < q3 ∧ HA D H1 q0 (eO 2 [.int (nI v), .null, .null, .ref q1, .ref q3]) ∧ HA D H1 q1 (eO 1 [.ref q2]) ∧ HA D H1 q2 (eL (g 2) 64 w1) ∧ HA D H1 q3 (eI (g 3) 400 (fun j => b2i (an1 j))) ∧ Chg H H1 q0 ∧ (∀ j, j < 64 → w1 j = fx j) ∧ ∀ j, j < 400 → an1 j = (decide (j = v)))) 3 465 (kF b0) := by
  refine Met.ofW (cc := cX2_init) (maxL := 5) (ret := none) (by decide) rfl ?_
  intro p e s m args below meth c s₁ B hml hv
  obtain ⟨rfl, hH, hK⟩ := hv
  have hx := B.exec
  have hb := B.bytes
  have hr := B.returns
  have hts := atoms_spec (ws := wsX2_init) B.pre
  have hown : s.vm.findClass RX2 = some m.cls := findClass_of_methodNamed B.named
  have hlocks := B.notSynchronized
  have hin : meth.name = "<init>" := (name_of_methodNamed B.named B.method).1
  rw [hH]
  have hl := lv_entry ([.ref q0, .int (nI v), .null, .null, .ref x]) (n := 5) (Nat.le_of_ble_eq_true rfl)
  rw [lg_entry_eq]
  generalize (lg_sl ([.ref q0, .int (nI v), .null, .null, .ref x]) ++ List.replicate (5 - (lg_sl ([.ref q0, .int (nI v), .null, .null, .ref x])).length) Slot.unset).toArray = ls at hl ⊢
  have hl : lv_has ls 5 [(0, .ref q0), (1, .int (nI v)), (2, .null), (3, .null), (4, .ref x)] := hl
  have hlt0 := ho.lt
  have hltx := hox.lt
  have hltwx := hwx.lt
  have hF0 : Fr (fun x => x = q0) H H := Fr.rf
  refine lv_aload_n hx hb dX2_init_0 rfl (lv_at hl 0 rfl) ?_
  refine W.objInit hx hb hown (hts (.methodLink RX2 3 objectInit) (by decide +kernel)) (hts (.instanceMethod objectInit) (by decide +kernel)) (hts (.code objectInit ⟨#[0xb1]⟩ 1 none) (by decide +kernel)) rfl (by rw [hml]; exact hl.1) rfl dX2_init_1 (Nat.le_of_ble_eq_true rfl) (Nat.le_of_ble_eq_true rfl) ?_
  refine W.eq (g2 := F0 m 4 ls []) rfl ?_
  refine lv_aload_n hx hb dX2_init_4 rfl (lv_at hl 0 rfl) ?_
  refine k_new (ci := 1) (C := RX1) (T := TX1) (N := 1) (fs := [.null]) hx hb hts (by decide +kernel) tyX1 tyX1_ok hown (hts (.classLink RX2 9 RX1) (by decide +kernel)) (hts (.instantiable RX1 1) (by decide +kernel)) (hts (.initialized RX1) (by decide +kernel)) hK rfl (fun j hj => by rw [show j = 0 by omega]; rfl) (Nat.le_of_ble_eq_true rfl) (Nat.le_of_ble_eq_true rfl) dX2_init_5 (fun q_120 H_121 ho_122 hA_123 => ?_)
  refine W.widen (k := 1) (n := 1) (Nat.le_of_ble_eq_true rfl) (Nat.le_of_ble_eq_true rfl) ?_
  have hqe_q_120 := hA_123.1
  have ho_124 := ho.add hA_123
  have ho_125 := hox.add hA_123
  have hw_126 := hwx.add hA_123
  have hF_127 := hF0.add hA_123
  have hz_128 := hA_123.2.1
  refine lv_dup hx hb dX2_init_8 rfl ?_
  refine k_callU (va_runIN (As := []) (rest := [.ref q_120, .ref q0]) ⟨hx, hb, hml, hown, hts⟩ (c_X1_init l D g b0 H_121 q_120 ho_122 (by omega) (by omega)) ⟨va_cnB 0 hts gX2_init_X1_init_n11 rfl rfl rfl (hK.2.1 (RX2, 11, yX1_init) (List.mem_of_getElem? (i := 2) rfl)) (hts (.initialized RX1) (by decide +kernel)) (by decide +kernel) ⟨Nat.le_of_ble_eq_true rfl, Nat.le_of_ble_eq_true rfl⟩, rfl, hts (.instanceMethod yX1_init) (by decide +kernel)⟩ ⟨kPc_blind, fun U hU hW => kPc_at hK hU hW⟩ rfl rfl hl.1 rfl (lv_room (Nat.le_of_ble_eq_true rfl)) dX2_init_9 ⟨Nat.le_of_ble_eq_true rfl, Nat.le_of_ble_eq_true rfl⟩) LB.nil (fun Hi locsi hLBi hqi => ?_)
  refine W.widen (k := 2) (n := 65) (Nat.le_of_ble_eq_true rfl) (Nat.le_of_ble_eq_true rfl) ?_
  obtain ⟨q2, hq2s, hqi1, hqi2, hqi3⟩ := hqi
  have ho_129 := ho_124.chg hqi3 (by omega)
  have ho_130 := ho_125.chg hqi3 (by omega)
  have hw_131 := hw_126.chg hqi3 (by omega)
  have hF_132 := hF_127.chg hqi3 (Or.inr (by omega))
  have hz_133 := hqi3.1
  have hlq2 := hqi2.lt
  refine k_putF (ci := 2) (T := TX2) (N := 5) (v := .ref q_120) hx hb hts (by decide +kernel) tyX2 tyX2_ok nmX2 hown (hin) hK ho_129 hLBi hb0 rfl 3 (by decide) rfl (hts (.fieldLink RX2 12 RX2 "triples" "LVersionMerge$TripleSet;") (by decide +kernel)) rfl (ty := .object "VersionMerge$TripleSet") (by decide +kernel) rfl rfl (Nat.le_of_ble_eq_true rfl) dX2_init_12 (fun H_134 locs_135 ho_136 hC_137 hLB_138 => ?_)
  have ho_136 : HA D H_134 q0 (eO 2 [.int (0), .null, .null, .ref q_120, .null]) := ho_136
  have ho_139 := ho_130.chg hC_137 (by omega)
  have ho_140 := hqi1.chg hC_137 (by omega)
  have hw_141 := hw_131.chg hC_137 (by omega)
  have hw_142 := hqi2.chg hC_137 (by omega)
  have hF_143 := hF_132.chg hC_137 (Or.inl rfl)
  have hz_144 := hC_137.1
  refine lv_aload_n hx hb dX2_init_15 rfl (lv_at hl 0 rfl) ?_
  refine lv_sipush (v := nI 400) hx hb dX2_init_16 (by decide +kernel) ?_
  refine k_newa (atype := .boolean) hx hb (hts (.arrayClass .boolean) (by decide +kernel)) hK 3 (ty := .boolean) rfl rfl rfl (400, .inl (fun _ => 0)) (fun _ => rfl) (by decide +kernel) (by decide +kernel) (Nat.le_of_ble_eq_true rfl) (Nat.le_of_ble_eq_true rfl) (Nat.le_of_ble_eq_true rfl) dX2_init_19 (fun q_145 H_146 hw_147 hA_148 => ?_)
  refine W.widen (k := 3) (n := 465) (Nat.le_of_ble_eq_true rfl) (Nat.le_of_ble_eq_true rfl) ?_
  have hqe_q_145 := hA_148.1
  have ho_149 := ho_136.add hA_148
  have ho_150 := ho_139.add hA_148
  have ho_151 := ho_140.add hA_148
  have hw_152 := hw_141.add hA_148
  have hw_153 := hw_142.add hA_148
  have hF_154 := hF_143.add hA_148
  have hz_155 := hA_148.2.1
  have hw_156 : HA D H_146 q_145 (eI (g 3) 400 (fun j => b2i ((fun _ => false) j))) := hw_147
  refine k_putF (ci := 2) (T := TX2) (N := 5) (v := .ref q_145) hx hb hts (by decide +kernel) tyX2 tyX2_ok nmX2 hown (hin) hK ho_149 hLB_138 hb0 rfl 4 (by decide) rfl (hts (.fieldLink RX2 18 RX2 "ancestors" "[Z") (by decide +kernel)) rfl (ty := .array .boolean) (by decide +kernel) rfl rfl (Nat.le_of_ble_eq_true rfl) dX2_init_21 (fun H_157 locs_158 ho_159 hC_160 hLB_161 => ?_)
  have ho_159 : HA D H_157 q0 (eO 2 [.int (0), .null, .null, .ref q_120, .ref q_145]) := ho_159
  have ho_162 := ho_150.chg hC_160 (by omega)
  have ho_163 := ho_151.chg hC_160 (by omega)
  have hw_164 := hw_152.chg hC_160 (by omega)
  have hw_165 := hw_153.chg hC_160 (by omega)
  have hw_166 := hw_156.chg hC_160 (by omega)
  have hF_167 := hF_154.chg hC_160 (Or.inl rfl)
  have hz_168 := hC_160.1
  refine lv_aload_n hx hb dX2_init_24 rfl (lv_at hl 0 rfl) ?_
  refine lv_iload_n hx hb dX2_init_25 rfl (lv_at hl 1 rfl) ?_
  refine k_putF (ci := 2) (T := TX2) (N := 5) (v := .int (nI v)) hx hb hts (by decide +kernel) tyX2 tyX2_ok nmX2 hown (hin) hK ho_159 hLB_161 hb0 rfl 0 (by decide) rfl (hts (.fieldLink RX2 22 RX2 "number" "I") (by decide +kernel)) rfl (ty := .int) (by decide +kernel) rfl rfl (Nat.le_of_ble_eq_true rfl) dX2_init_26 (fun H_169 locs_170 ho_171 hC_172 hLB_173 => ?_)
  have ho_171 : HA D H_169 q0 (eO 2 [.int (nI v), .null, .null, .ref q_120, .ref q_145]) := ho_171
  have ho_174 := ho_162.chg hC_172 (by omega)
  have ho_175 := ho_163.chg hC_172 (by omega)
  have hw_176 := hw_164.chg hC_172 (by omega)
  have hw_177 := hw_165.chg hC_172 (by omega)
  have hw_178 := hw_166.chg hC_172 (by omega)
  have hF_179 := hF_167.chg hC_172 (Or.inl rfl)
  have hz_180 := hC_172.1
  refine lv_aload_n hx hb dX2_init_29 rfl (lv_at hl 0 rfl) ?_
  refine lv_aload_nN hx hb dX2_init_30 rfl (lv_at hl 2 rfl) ?_
  refine k_putF (ci := 2) (T := TX2) (N := 5) (v := .null) hx hb hts (by decide +kernel) tyX2 tyX2_ok nmX2 hown (hin) hK ho_171 hLB_173 hb0 rfl 1 (by decide) rfl (hts (.fieldLink RX2 26 RX2 "first" "LVersionMerge$Version;") (by decide +kernel)) rfl (ty := .object "VersionMerge$Version") (by decide +kernel) rfl rfl (Nat.le_of_ble_eq_true rfl) dX2_init_31 (fun H_181 locs_182 ho_183 hC_184 hLB_185 => ?_)
  have ho_183 : HA D H_181 q0 (eO 2 [.int (nI v), .null, .null, .ref q_120, .ref q_145]) := ho_183
  have ho_186 := ho_174.chg hC_184 (by omega)
  have ho_187 := ho_175.chg hC_184 (by omega)
  have hw_188 := hw_176.chg hC_184 (by omega)
  have hw_189 := hw_177.chg hC_184 (by omega)
  have hw_190 := hw_178.chg hC_184 (by omega)
  have hF_191 := hF_179.chg hC_184 (Or.inl rfl)
  have hz_192 := hC_184.1
  refine lv_aload_n hx hb dX2_init_34 rfl (lv_at hl 0 rfl) ?_
  refine lv_aload_nN hx hb dX2_init_35 rfl (lv_at hl 3 rfl) ?_
  refine k_putF (ci := 2) (T := TX2) (N := 5) (v := .null) hx hb hts (by decide +kernel) tyX2 tyX2_ok nmX2 hown (hin) hK ho_183 hLB_185 hb0 rfl 2 (by decide) rfl (hts (.fieldLink RX2 30 RX2 "second" "LVersionMerge$Version;") (by decide +kernel)) rfl (ty := .object "VersionMerge$Version") (by decide +kernel) rfl rfl (Nat.le_of_ble_eq_true rfl) dX2_init_36 (fun H_193 locs_194 ho_195 hC_196 hLB_197 => ?_)
  have ho_195 : HA D H_193 q0 (eO 2 [.int (nI v), .null, .null, .ref q_120, .ref q_145]) := ho_195
  have ho_198 := ho_186.chg hC_196 (by omega)
  have ho_199 := ho_187.chg hC_196 (by omega)
  have hw_200 := hw_188.chg hC_196 (by omega)
  have hw_201 := hw_189.chg hC_196 (by omega)
  have hw_202 := hw_190.chg hC_196 (by omega)
  have hF_203 := hF_191.chg hC_196 (Or.inl rfl)
  have hz_204 := hC_196.1
  refine lv_aload_n hx hb dX2_init_39 rfl (lv_at hl 0 rfl) ?_
  refine k_get (ci := 2) (C := RX2) (T := TX2) (N := 5) (v := .ref q_120) hx hb hts (by decide +kernel) hown hK ho_195 rfl 3 (by decide) rfl (hts (.fieldLink RX2 12 RX2 "triples" "LVersionMerge$TripleSet;") (by decide +kernel)) rfl dX2_init_40 ?_
  refine lv_aload hx hb dX2_init_43 (lv_at hl 4 rfl) ?_
  refine k_callU (va_runVN (As := [.ref x]) (rest := []) ⟨hx, hb, hml, hown, hts⟩ (c_X1_becomeCopy l D g b0 H_193 q_120 q2 (fun _ => 0) ho_199 hw_201 (by omega) x wx fx ho_198 hw_200 hxb (by omega)) ⟨va_cnB 1 hts gX2_init_X1_becomeCopy_n33 rfl rfl rfl (hK.2.1 (RX2, 33, yX1_becomeCopy) (List.mem_of_getElem? (i := 3) rfl)) (hts (.initialized RX1) (by decide +kernel)) (by decide +kernel) ⟨Nat.le_of_ble_eq_true rfl, Nat.le_of_ble_eq_true rfl⟩, hts (.instanceMethod yX1_becomeCopy) (by decide +kernel), hts (.selects RX1 yX1_becomeCopy yX1_becomeCopy) (by decide +kernel)⟩ ⟨kPc_blind, k_recv hK ho_199 rfl, fun U hU hW => kPc_at hK hU hW⟩ rfl rfl hl.1 rfl (lv_room (Nat.le_of_ble_eq_true rfl)) dX2_init_45 ⟨Nat.le_of_ble_eq_true rfl, Nat.le_of_ble_eq_true rfl⟩) hLB_197 (fun Hb locsb hLBb hqb => ?_)
  obtain ⟨w1, hw1, hCb, hw1v⟩ := hqb
  have ho_205 := ho_195.chg hCb (by omega)
  have ho_206 := ho_198.chg hCb (by omega)
  have ho_207 := ho_199.chg hCb (by omega)
  have hw_208 := hw_200.chg hCb (by omega)
  have hw_209 := hw_202.chg hCb (by omega)
  have hF_210 := hF_203.chg hCb (Or.inr (by omega))
  have hz_211 := hCb.1
  refine lv_aload_n hx hb dX2_init_48 rfl (lv_at hl 0 rfl) ?_
  refine lv_aload_nN hx hb dX2_init_49 rfl (lv_at hl 2 rfl) ?_
  refine k_callU (va_runV (As := [.null]) (rest := []) ⟨hx, hb, hml, hown, hts⟩ (c_X2_takeAncestors_0 l D g b0 Hb q0) (cwV 1 hts gX2_init_X2_takeAncestors rfl rfl rfl (by decide +kernel) ⟨Nat.le_of_ble_eq_true rfl, Nat.le_of_ble_eq_true rfl⟩) ⟨kPc_blind, k_recv hK ho_205 rfl, fun U hU hW => kPc_at hK hU hW⟩ rfl rfl hl.1 rfl (lv_room (Nat.le_of_ble_eq_true rfl)) dX2_init_50 ⟨Nat.le_of_ble_eq_true rfl, Nat.le_of_ble_eq_true rfl⟩) hLBb (fun Ht1 locst1 hLBt1 hqt1 => ?_)
  have hqs1 := hqt1.symm
  subst hqs1
  refine lv_aload_n hx hb dX2_init_53 rfl (lv_at hl 0 rfl) ?_
  refine lv_aload_nN hx hb dX2_init_54 rfl (lv_at hl 3 rfl) ?_
  refine k_callU (va_runV (As := [.null]) (rest := []) ⟨hx, hb, hml, hown, hts⟩ (c_X2_takeAncestors_0 l D g b0 Hb q0) (cwV 1 hts gX2_init_X2_takeAncestors rfl rfl rfl (by decide +kernel) ⟨Nat.le_of_ble_eq_true rfl, Nat.le_of_ble_eq_true rfl⟩) ⟨kPc_blind, k_recv hK ho_205 rfl, fun U hU hW => kPc_at hK hU hW⟩ rfl rfl hl.1 rfl (lv_room (Nat.le_of_ble_eq_true rfl)) dX2_init_55 ⟨Nat.le_of_ble_eq_true rfl, Nat.le_of_ble_eq_true rfl⟩) hLBt1 (fun Ht2 locst2 hLBt2 hqt2 => ?_)
  have hqs2 := hqt2.symm
  subst hqs2
  refine lv_iload_n hx hb dX2_init_58 rfl (lv_at hl 1 rfl) ?_
  refine n_if_lt (tgt := 76) hx hb dX2_init_59 (by decide) (by omega) ?_
  refine lv_iload_n hx hb dX2_init_62 rfl (lv_at hl 1 rfl) ?_
  refine lv_sipush (v := nI 400) hx hb dX2_init_63 (by decide +kernel) ?_
  refine n_icmp_ge (tgt := 76) hx hb dX2_init_66 (by decide) (by omega) (by omega) (fun c_213 => ?_) (fun c_213 => ?_)
  · skip
    exact absurd hv (by omega)
  · skip
    refine lv_aload_n hx hb dX2_init_69 rfl (lv_at hl 0 rfl) ?_
    refine k_get (ci := 2) (C := RX2) (T := TX2) (N := 5) (v := .ref q_145) hx hb hts (by decide +kernel) hown hK ho_205 rfl 4 (by decide) rfl (hts (.fieldLink RX2 18 RX2 "ancestors" "[Z") (by decide +kernel)) rfl dX2_init_70 ?_
    refine lv_iload_n hx hb dX2_init_73 rfl (lv_at hl 1 rfl) ?_
    refine lv_iconst (v := b2i true) hx hb dX2_init_74 (by decide +kernel) ?_
    refine k_zast (y := b2i true) hx hb hK hw_209 hLBt2 (by omega) (v) rfl (by omega) (by omega) (b2i_z _) dX2_init_75 (fun H_214 locs_215 hw_216 hC_217 hLB_218 => ?_)
    rw [upd_b2i] at hw_216
    have ho_219 := ho_205.chg hC_217 (by omega)
    have ho_220 := ho_206.chg hC_217 (by omega)
    have ho_221 := ho_207.chg hC_217 (by omega)
    have hw_222 := hw_208.chg hC_217 (by omega)
    have hw_223 := hw1.chg hC_217 (by omega)
    have hF_224 := hF_210.chg hC_217 (Or.inr (by omega))
    have hz_225 := hC_217.1
    refine r_vU hx hb hr hLB_218 (Nat.le_refl _) (Nat.le_refl _) ⟨q_120, q2, q_145, w1, _, by omega, by omega, by omega, ho_219, ho_221, hw_223, hw_216, hF_224.to (fun _ h => h), hw1v, ?_⟩ dX2_init_76 hlocks
    intro j hj
    by_cases e : j = v
    · subst e
      rw [up_eq, show decide (j = j) = true from decide_eq_true rfl]
      try simp
    · rw [up_ne _ _ e, show decide (j = v) = false from decide_eq_false e]
      try simp
set_option maxHeartbeats 4000000 in
set_option maxRecDepth 100000 in
/-- Version(number, first, second, triples) -/
theorem c_X2_init_10 (l : Launch) (D : va_G) (g : Nat → ClassId) (b0 : Nat) (H : Heap) (q0 : Nat) (ho : HA D H q0 (eO 2 [.int 0, .null, .null, .null, .null])) (hb0 : b0 ≤ q0) (hbH : b0 ≤ H.size) (v : Nat) (hv : v < 400) (x wx : Nat) (fx : Nat → Int64) (hox : HA D H x (eO 1 [.ref wx])) (hwx : HA D H wx (eL (g 2) 64 fx)) (hxb : b0 ≤ wx) (hx0 : x ≠ q0) (hwx0 : wx ≠ q0) (p1 m1 : Nat) (i1 : Int32) (t11 t12 t13 : Value) (a1 : Nat → Bool) (hp1 : HA D H p1 (eO 2 [.int i1, t11, t12, t13, .ref m1])) (hm1 : HA D H m1 (eI (g 3) 400 (fun j => b2i (a1 j)))) (hp10 : p1 ≠ q0) (hm10 : m1 ≠ q0) : Met l yX2_init wsX2_init ({ frames := 2, cells := 3, slots := 465, locals := 61 } : Room) (kPc D g [.ref q0, .int (nI v), .ref p1, .null, .ref x] H) (kU (fun H1 => ∃ (q1 q2 q3 : Nat) (w1 : Nat → Int64) (an1 : Nat → Bool), H.size ≤ q1 ∧ q1 < q2 ∧ q2 < q3 ∧ HA D H1 q0 (eO 2 [.int (nI v), .ref p1, .null, .ref q1, .ref q3]) ∧ HA D H1 q1 (eO 1 [.ref q2]) ∧ HA D H1 q2 (eL (g 2) 64 w1) ∧ HA D H1 q3 (eI (g 3) 400 (fun j => b2i (an1 j))) ∧ Chg H H1 q0 ∧ (∀ j, j < 64 → w1 j = fx j) ∧ ∀ j, j < 400 → an1 j = (decide (j = v) || a1 j))) 3 465 (kF b0) := by
  refine Met.ofW (cc := cX2_init) (maxL := 5) (ret := none) (by decide) rfl ?_
  intro p e s m args below meth c s₁ B hml hv
  obtain ⟨rfl, hH, hK⟩ := hv
  have hx := B.exec
  have hb := B.bytes
  have hr := B.returns
  have hts := atoms_spec (ws := wsX2_init) B.pre
  have hown : s.vm.findClass RX2 = some m.cls := findClass_of_methodNamed B.named
  have hlocks := B.notSynchronized
  have hin : meth.name = "<init>" := (name_of_methodNamed B.named B.method).1
  rw [hH]
  have hl := lv_entry ([.ref q0, .int (nI v), .ref p1, .null, .ref x]) (n := 5) (Nat.le_of_ble_eq_true rfl)
  rw [lg_entry_eq]
  generalize (lg_sl ([.ref q0, .int (nI v), .ref p1, .null, .ref x]) ++ List.replicate (5 - (lg_sl ([.ref q0, .int (nI v), .ref p1, .null, .ref x])).length) Slot.unset).toArray = ls at hl ⊢
  have hl : lv_has ls 5 [(0, .ref q0), (1, .int (nI v)), (2, .ref p1), (3, .null), (4, .ref x)] := hl
  have hlt0 := ho.lt
  have hltx := hox.lt
  have hltwx := hwx.lt
  have hF0 : Fr (fun x => x = q0) H H := Fr.rf
  have hltp1 := hp1.lt
  have hltm1 := hm1.lt
  refine lv_aload_n hx hb dX2_init_0 rfl (lv_at hl 0 rfl) ?_
  refine W.objInit hx hb hown (hts (.methodLink RX2 3 objectInit) (by decide +kernel)) (hts (.instanceMethod objectInit) (by decide +kernel)) (hts (.code objectInit ⟨#[0xb1]⟩ 1 none) (by decide +kernel)) rfl (by rw [hml]; exact hl.1) rfl dX2_init_1 (Nat.le_of_ble_eq_true rfl) (Nat.le_of_ble_eq_true rfl) ?_
  refine W.eq (g2 := F0 m 4 ls []) rfl ?_
  refine lv_aload_n hx hb dX2_init_4 rfl (lv_at hl 0 rfl) ?_
  refine k_new (ci := 1) (C := RX1) (T := TX1) (N := 1) (fs := [.null]) hx hb hts (by decide +kernel) tyX1 tyX1_ok hown (hts (.classLink RX2 9 RX1) (by decide +kernel)) (hts (.instantiable RX1 1) (by decide +kernel)) (hts (.initialized RX1) (by decide +kernel)) hK rfl (fun j hj => by rw [show j = 0 by omega]; rfl) (Nat.le_of_ble_eq_true rfl) (Nat.le_of_ble_eq_true rfl) dX2_init_5 (fun q_226 H_227 ho_228 hA_229 => ?_)
  refine W.widen (k := 1) (n := 1) (Nat.le_of_ble_eq_true rfl) (Nat.le_of_ble_eq_true rfl) ?_
  have hqe_q_226 := hA_229.1
  have ho_230 := ho.add hA_229
  have ho_231 := hox.add hA_229
  have ho_232 := hp1.add hA_229
  have hw_233 := hwx.add hA_229
  have hw_234 := hm1.add hA_229
  have hF_235 := hF0.add hA_229
  have hz_236 := hA_229.2.1
  refine lv_dup hx hb dX2_init_8 rfl ?_
  refine k_callU (va_runIN (As := []) (rest := [.ref q_226, .ref q0]) ⟨hx, hb, hml, hown, hts⟩ (c_X1_init l D g b0 H_227 q_226 ho_228 (by omega) (by omega)) ⟨va_cnB 0 hts gX2_init_X1_init_n11 rfl rfl rfl (hK.2.1 (RX2, 11, yX1_init) (List.mem_of_getElem? (i := 2) rfl)) (hts (.initialized RX1) (by decide +kernel)) (by decide +kernel) ⟨Nat.le_of_ble_eq_true rfl, Nat.le_of_ble_eq_true rfl⟩, rfl, hts (.instanceMethod yX1_init) (by decide +kernel)⟩ ⟨kPc_blind, fun U hU hW => kPc_at hK hU hW⟩ rfl rfl hl.1 rfl (lv_room (Nat.le_of_ble_eq_true rfl)) dX2_init_9 ⟨Nat.le_of_ble_eq_true rfl, Nat.le_of_ble_eq_true rfl⟩) LB.nil (fun Hi locsi hLBi hqi => ?_)
  refine W.widen (k := 2) (n := 65) (Nat.le_of_ble_eq_true rfl) (Nat.le_of_ble_eq_true rfl) ?_
  obtain ⟨q2, hq2s, hqi1, hqi2, hqi3⟩ := hqi
  have ho_237 := ho_230.chg hqi3 (by omega)
  have ho_238 := ho_231.chg hqi3 (by omega)
  have ho_239 := ho_232.chg hqi3 (by omega)
  have hw_240 := hw_233.chg hqi3 (by omega)
  have hw_241 := hw_234.chg hqi3 (by omega)
  have hF_242 := hF_235.chg hqi3 (Or.inr (by omega))
  have hz_243 := hqi3.1
  have hlq2 := hqi2.lt
  refine k_putF (ci := 2) (T := TX2) (N := 5) (v := .ref q_226) hx hb hts (by decide +kernel) tyX2 tyX2_ok nmX2 hown (hin) hK ho_237 hLBi hb0 rfl 3 (by decide) rfl (hts (.fieldLink RX2 12 RX2 "triples" "LVersionMerge$TripleSet;") (by decide +kernel)) rfl (ty := .object "VersionMerge$TripleSet") (by decide +kernel) rfl rfl (Nat.le_of_ble_eq_true rfl) dX2_init_12 (fun H_244 locs_245 ho_246 hC_247 hLB_248 => ?_)
  have ho_246 : HA D H_244 q0 (eO 2 [.int (0), .null, .null, .ref q_226, .null]) := ho_246
  have ho_249 := ho_238.chg hC_247 (by omega)
  have ho_250 := ho_239.chg hC_247 (by omega)
  have ho_251 := hqi1.chg hC_247 (by omega)
  have hw_252 := hw_240.chg hC_247 (by omega)
  have hw_253 := hw_241.chg hC_247 (by omega)
  have hw_254 := hqi2.chg hC_247 (by omega)
  have hF_255 := hF_242.chg hC_247 (Or.inl rfl)
  have hz_256 := hC_247.1
  refine lv_aload_n hx hb dX2_init_15 rfl (lv_at hl 0 rfl) ?_
  refine lv_sipush (v := nI 400) hx hb dX2_init_16 (by decide +kernel) ?_
  refine k_newa (atype := .boolean) hx hb (hts (.arrayClass .boolean) (by decide +kernel)) hK 3 (ty := .boolean) rfl rfl rfl (400, .inl (fun _ => 0)) (fun _ => rfl) (by decide +kernel) (by decide +kernel) (Nat.le_of_ble_eq_true rfl) (Nat.le_of_ble_eq_true rfl) (Nat.le_of_ble_eq_true rfl) dX2_init_19 (fun q_257 H_258 hw_259 hA_260 => ?_)
  refine W.widen (k := 3) (n := 465) (Nat.le_of_ble_eq_true rfl) (Nat.le_of_ble_eq_true rfl) ?_
  have hqe_q_257 := hA_260.1
  have ho_261 := ho_246.add hA_260
  have ho_262 := ho_249.add hA_260
  have ho_263 := ho_250.add hA_260
  have ho_264 := ho_251.add hA_260
  have hw_265 := hw_252.add hA_260
  have hw_266 := hw_253.add hA_260
  have hw_267 := hw_254.add hA_260
  have hF_268 := hF_255.add hA_260
  have hz_269 := hA_260.2.1
  have hw_270 : HA D H_258 q_257 (eI (g 3) 400 (fun j => b2i ((fun _ => false) j))) := hw_259
  refine k_putF (ci := 2) (T := TX2) (N := 5) (v := .ref q_257) hx hb hts (by decide +kernel) tyX2 tyX2_ok nmX2 hown (hin) hK ho_261 hLB_248 hb0 rfl 4 (by decide) rfl (hts (.fieldLink RX2 18 RX2 "ancestors" "[Z") (by decide +kernel)) rfl (ty := .array .boolean) (by decide +kernel) rfl rfl (Nat.le_of_ble_eq_true rfl) dX2_init_21 (fun H_271 locs_272 ho_273 hC_274 hLB_275 => ?_)
  have ho_273 : HA D H_271 q0 (eO 2 [.int (0), .null, .null, .ref q_226, .ref q_257]) := ho_273
  have ho_276 := ho_262.chg hC_274 (by omega)
  have ho_277 := ho_263.chg hC_274 (by omega)
  have ho_278 := ho_264.chg hC_274 (by omega)
  have hw_279 := hw_265.chg hC_274 (by omega)
  have hw_280 := hw_266.chg hC_274 (by omega)
  have hw_281 := hw_267.chg hC_274 (by omega)
  have hw_282 := hw_270.chg hC_274 (by omega)
  have hF_283 := hF_268.chg hC_274 (Or.inl rfl)
  have hz_284 := hC_274.1
  refine lv_aload_n hx hb dX2_init_24 rfl (lv_at hl 0 rfl) ?_
  refine lv_iload_n hx hb dX2_init_25 rfl (lv_at hl 1 rfl) ?_
  refine k_putF (ci := 2) (T := TX2) (N := 5) (v := .int (nI v)) hx hb hts (by decide +kernel) tyX2 tyX2_ok nmX2 hown (hin) hK ho_273 hLB_275 hb0 rfl 0 (by decide) rfl (hts (.fieldLink RX2 22 RX2 "number" "I") (by decide +kernel)) rfl (ty := .int) (by decide +kernel) rfl rfl (Nat.le_of_ble_eq_true rfl) dX2_init_26 (fun H_285 locs_286 ho_287 hC_288 hLB_289 => ?_)
  have ho_287 : HA D H_285 q0 (eO 2 [.int (nI v), .null, .null, .ref q_226, .ref q_257]) := ho_287
  have ho_290 := ho_276.chg hC_288 (by omega)
  have ho_291 := ho_277.chg hC_288 (by omega)
  have ho_292 := ho_278.chg hC_288 (by omega)
  have hw_293 := hw_279.chg hC_288 (by omega)
  have hw_294 := hw_280.chg hC_288 (by omega)
  have hw_295 := hw_281.chg hC_288 (by omega)
  have hw_296 := hw_282.chg hC_288 (by omega)
  have hF_297 := hF_283.chg hC_288 (Or.inl rfl)
  have hz_298 := hC_288.1
  refine lv_aload_n hx hb dX2_init_29 rfl (lv_at hl 0 rfl) ?_
  refine lv_aload_n hx hb dX2_init_30 rfl (lv_at hl 2 rfl) ?_
  refine k_putF (ci := 2) (T := TX2) (N := 5) (v := .ref p1) hx hb hts (by decide +kernel) tyX2 tyX2_ok nmX2 hown (hin) hK ho_287 hLB_289 hb0 rfl 1 (by decide) rfl (hts (.fieldLink RX2 26 RX2 "first" "LVersionMerge$Version;") (by decide +kernel)) rfl (ty := .object "VersionMerge$Version") (by decide +kernel) rfl rfl (Nat.le_of_ble_eq_true rfl) dX2_init_31 (fun H_299 locs_300 ho_301 hC_302 hLB_303 => ?_)
  have ho_301 : HA D H_299 q0 (eO 2 [.int (nI v), .ref p1, .null, .ref q_226, .ref q_257]) := ho_301
  have ho_304 := ho_290.chg hC_302 (by omega)
  have ho_305 := ho_291.chg hC_302 (by omega)
  have ho_306 := ho_292.chg hC_302 (by omega)
  have hw_307 := hw_293.chg hC_302 (by omega)
  have hw_308 := hw_294.chg hC_302 (by omega)
  have hw_309 := hw_295.chg hC_302 (by omega)
  have hw_310 := hw_296.chg hC_302 (by omega)
  have hF_311 := hF_297.chg hC_302 (Or.inl rfl)
  have hz_312 := hC_302.1
  refine lv_aload_n hx hb dX2_init_34 rfl (lv_at hl 0 rfl) ?_
  refine lv_aload_nN hx hb dX2_init_35 rfl (lv_at hl 3 rfl) ?_
  refine k_putF (ci := 2) (T := TX2) (N := 5) (v := .null) hx hb hts (by decide +kernel) tyX2 tyX2_ok nmX2 hown (hin) hK ho_301 hLB_303 hb0 rfl 2 (by decide) rfl (hts (.fieldLink RX2 30 RX2 "second" "LVersionMerge$Version;") (by decide +kernel)) rfl (ty := .object "VersionMerge$Version") (by decide +kernel) rfl rfl (Nat.le_of_ble_eq_true rfl) dX2_init_36 (fun H_313 locs_314 ho_315 hC_316 hLB_317 => ?_)
  have ho_315 : HA D H_313 q0 (eO 2 [.int (nI v), .ref p1, .null, .ref q_226, .ref q_257]) := ho_315
  have ho_318 := ho_304.chg hC_316 (by omega)
  have ho_319 := ho_305.chg hC_316 (by omega)
  have ho_320 := ho_306.chg hC_316 (by omega)
  have hw_321 := hw_307.chg hC_316 (by omega)
  have hw_322 := hw_308.chg hC_316 (by omega)
  have hw_323 := hw_309.chg hC_316 (by omega)
  have hw_324 := hw_310.chg hC_316 (by omega)
  have hF_325 := hF_311.chg hC_316 (Or.inl rfl)
  have hz_326 := hC_316.1
  refine lv_aload_n hx hb dX2_init_39 rfl (lv_at hl 0 rfl) ?_
  refine k_get (ci := 2) (C := RX2) (T := TX2) (N := 5) (v := .ref q_226) hx hb hts (by decide +kernel) hown hK ho_315 rfl 3 (by decide) rfl (hts (.fieldLink RX2 12 RX2 "triples" "LVersionMerge$TripleSet;") (by decide +kernel)) rfl dX2_init_40 ?_
  refine lv_aload hx hb dX2_init_43 (lv_at hl 4 rfl) ?_
  refine k_callU (va_runVN (As := [.ref x]) (rest := []) ⟨hx, hb, hml, hown, hts⟩ (c_X1_becomeCopy l D g b0 H_313 q_226 q2 (fun _ => 0) ho_320 hw_323 (by omega) x wx fx ho_318 hw_321 hxb (by omega)) ⟨va_cnB 1 hts gX2_init_X1_becomeCopy_n33 rfl rfl rfl (hK.2.1 (RX2, 33, yX1_becomeCopy) (List.mem_of_getElem? (i := 3) rfl)) (hts (.initialized RX1) (by decide +kernel)) (by decide +kernel) ⟨Nat.le_of_ble_eq_true rfl, Nat.le_of_ble_eq_true rfl⟩, hts (.instanceMethod yX1_becomeCopy) (by decide +kernel), hts (.selects RX1 yX1_becomeCopy yX1_becomeCopy) (by decide +kernel)⟩ ⟨kPc_blind, k_recv hK ho_320 rfl, fun U hU hW => kPc_at hK hU hW⟩ rfl rfl hl.1 rfl (lv_room (Nat.le_of_ble_eq_true rfl)) dX2_init_45 ⟨Nat.le_of_ble_eq_true rfl, Nat.le_of_ble_eq_true rfl⟩) hLB_317 (fun Hb locsb hLBb hqb => ?_)
  obtain ⟨w1, hw1, hCb, hw1v⟩ := hqb
  have ho_327 := ho_315.chg hCb (by omega)
  have ho_328 := ho_318.chg hCb (by omega)
  have ho_329 := ho_319.chg hCb (by omega)
  have ho_330 := ho_320.chg hCb (by omega)
  have hw_331 := hw_321.chg hCb (by omega)
  have hw_332 := hw_322.chg hCb (by omega)
  have hw_333 := hw_324.chg hCb (by omega)
  have hF_334 := hF_325.chg hCb (Or.inr (by omega))
  have hz_335 := hCb.1
  refine lv_aload_n hx hb dX2_init_48 rfl (lv_at hl 0 rfl) ?_
  refine lv_aload_n hx hb dX2_init_49 rfl (lv_at hl 2 rfl) ?_
  refine k_callU (va_runV (As := [.ref p1]) (rest := []) ⟨hx, hb, hml, hown, hts⟩ (c_X2_takeAncestors_1 l D g b0 Hb q0 q_257 _ _ _ _ (fun _ => false) ho_327 hw_333 (by omega) p1 m1 _ _ _ _ a1 ho_329 hw_332 (by omega) (by omega) (by omega)) (cwV 1 hts gX2_init_X2_takeAncestors rfl rfl rfl (by decide +kernel) ⟨Nat.le_of_ble_eq_true rfl, Nat.le_of_ble_eq_true rfl⟩) ⟨kPc_blind, k_recv hK ho_327 rfl, fun U hU hW => kPc_at hK hU hW⟩ rfl rfl hl.1 rfl (lv_room (Nat.le_of_ble_eq_true rfl)) dX2_init_50 ⟨Nat.le_of_ble_eq_true rfl, Nat.le_of_ble_eq_true rfl⟩) hLBb (fun Ht1 locst1 hLBt1 hqt1 => ?_)
  obtain ⟨an1, hat1, hCt1, hav1⟩ := hqt1
  have ho_336 := ho_327.chg hCt1 (by omega)
  have ho_337 := ho_328.chg hCt1 (by omega)
  have ho_338 := ho_329.chg hCt1 (by omega)
  have ho_339 := ho_330.chg hCt1 (by omega)
  have hw_340 := hw_331.chg hCt1 (by omega)
  have hw_341 := hw_332.chg hCt1 (by omega)
  have hw_342 := hw1.chg hCt1 (by omega)
  have hF_343 := hF_334.chg hCt1 (Or.inr (by omega))
  have hz_344 := hCt1.1
  refine lv_aload_n hx hb dX2_init_53 rfl (lv_at hl 0 rfl) ?_
  refine lv_aload_nN hx hb dX2_init_54 rfl (lv_at hl 3 rfl) ?_
  refine k_callU (va_runV (As := [.null]) (rest := []) ⟨hx, hb, hml, hown, hts⟩ (c_X2_takeAncestors_0 l D g b0 Ht1 q0) (cwV 1 hts gX2_init_X2_takeAncestors rfl rfl rfl (by decide +kernel) ⟨Nat.le_of_ble_eq_true rfl, Nat.le_of_ble_eq_true rfl⟩) ⟨kPc_blind, k_recv hK ho_336 rfl, fun U hU hW => kPc_at hK hU hW⟩ rfl rfl hl.1 rfl (lv_room (Nat.le_of_ble_eq_true rfl)) dX2_init_55 ⟨Nat.le_of_ble_eq_true rfl, Nat.le_of_ble_eq_true rfl⟩) hLBt1 (fun Ht2 locst2 hLBt2 hqt2 => ?_)
  have hqs2 := hqt2.symm
  subst hqs2
  refine lv_iload_n hx hb dX2_init_58 rfl (lv_at hl 1 rfl) ?_
  refine n_if_lt (tgt := 76) hx hb dX2_init_59 (by decide) (by omega) ?_
  refine lv_iload_n hx hb dX2_init_62 rfl (lv_at hl 1 rfl) ?_
  refine lv_sipush (v := nI 400) hx hb dX2_init_63 (by decide +kernel) ?_
  refine n_icmp_ge (tgt := 76) hx hb dX2_init_66 (by decide) (by omega) (by omega) (fun c_346 => ?_) (fun c_346 => ?_)
  · skip
    exact absurd hv (by omega)
  · skip
    refine lv_aload_n hx hb dX2_init_69 rfl (lv_at hl 0 rfl) ?_
    refine k_get (ci := 2) (C := RX2) (T := TX2) (N := 5) (v := .ref q_257) hx hb hts (by decide +kernel) hown hK ho_336 rfl 4 (by decide) rfl (hts (.fieldLink RX2 18 RX2 "ancestors" "[Z") (by decide +kernel)) rfl dX2_init_70 ?_
    refine lv_iload_n hx hb dX2_init_73 rfl (lv_at hl 1 rfl) ?_
    refine lv_iconst (v := b2i true) hx hb dX2_init_74 (by decide +kernel) ?_
    refine k_zast (y := b2i true) hx hb hK hat1 hLBt2 (by omega) (v) rfl (by omega) (by omega) (b2i_z _) dX2_init_75 (fun H_347 locs_348 hw_349 hC_350 hLB_351 => ?_)
    rw [upd_b2i] at hw_349
    have ho_352 := ho_336.chg hC_350 (by omega)
    have ho_353 := ho_337.chg hC_350 (by omega)
    have ho_354 := ho_338.chg hC_350 (by omega)
    have ho_355 := ho_339.chg hC_350 (by omega)
    have hw_356 := hw_340.chg hC_350 (by omega)
    have hw_357 := hw_341.chg hC_350 (by omega)
    have hw_358 := hw_342.chg hC_350 (by omega)
    have hF_359 := hF_343.chg hC_350 (Or.inr (by omega))
    have hz_360 := hC_350.1
    refine r_vU hx hb hr hLB_351 (Nat.le_refl _) (Nat.le_refl _) ⟨q_226, q2, q_257, w1, _, by omega, by omega, by omega, ho_352, ho_355, hw_358, hw_349, hF_359.to (fun _ h => h), hw1v, ?_⟩ dX2_init_76 hlocks
    intro j hj
    by_cases e : j = v
    · subst e
      rw [up_eq, show decide (j = j) = true from decide_eq_true rfl]
      try simp
    · rw [up_ne _ _ e, hav1 j hj, show decide (j = v) = false from decide_eq_false e]
      try simp
set_option maxHeartbeats 4000000 in
set_option maxRecDepth 100000 in
/-- Version(number, first, second, triples) -/
theorem c_X2_init_11 (l : Launch) (D : va_G) (g : Nat → ClassId) (b0 : Nat) (H : Heap) (q0 : Nat) (ho : HA D H q0 (eO 2 [.int 0, .null, .null, .null, .null])) (hb0 : b0 ≤ q0) (hbH : b0 ≤ H.size) (v : Nat) (hv : v < 400) (x wx : Nat) (fx : Nat → Int64) (hox : HA D H x (eO 1 [.ref wx])) (hwx : HA D H wx (eL (g 2) 64 fx)) (hxb : b0 ≤ wx) (hx0 : x ≠ q0) (hwx0 : wx ≠ q0) (p1 m1 : Nat) (i1 : Int32) (t11 t12 t13 : Value) (a1 : Nat → Bool) (hp1 : HA D H p1 (eO 2 [.int i1, t11, t12, t13, .ref m1])) (hm1 : HA D H m1 (eI (g 3) 400 (fun j => b2i (a1 j)))) (hp10 : p1 ≠ q0) (hm10 : m1 ≠ q0) (p2 m2 : Nat) (i2 : Int32) (t21 t22 t23 : Value) (a2 : Nat → Bool) (hp2 : HA D H p2 (eO 2 [.int i2, t21, t22, t23, .ref m2])) (hm2 : HA D H m2 (eI (g 3) 400 (fun j => b2i (a2 j)))) (hp20 : p2 ≠ q0) (hm20 : m2 ≠ q0) : Met l yX2_init wsX2_init ({ frames := 2, cells := 3, slots := 465, locals := 61 } : Room) (kPc D g [.ref q0, .int (nI v), .ref p1, .ref p2, .ref x] H) (kU (fun H1 => ∃ (q1 q2 q3 : Nat) (w1 : Nat → Int64) (an1 : Nat → Bool), H.size ≤ q1 ∧ q1 < q2 ∧ q2 < q3 ∧ HA D H1 q0 (eO 2 [.int (nI v), .ref p1, .ref p2, .ref q1, .ref q3]) ∧ HA D H1 q1 (eO 1 [.ref q2]) ∧ HA D H1 q2 (eL (g 2) 64 w1) ∧ HA D H1 q3 (eI (g 3) 400 (fun j => b2i (an1 j))) ∧ Chg H H1 q0 ∧ (∀ j, j < 64 → w1 j = fx j) ∧ ∀ j, j < 400 → an1 j = (decide (j = v) || a1 j || a2 j))) 3 465 (kF b0) := by
  refine Met.ofW (cc := cX2_init) (maxL := 5) (ret := none) (by decide) rfl ?_
  intro p e s m args below meth c s₁ B hml hv
  obtain ⟨rfl, hH, hK⟩ := hv
  have hx := B.exec
  have hb := B.bytes
  have hr := B.returns
  have hts := atoms_spec (ws := wsX2_init) B.pre
  have hown : s.vm.findClass RX2 = some m.cls := findClass_of_methodNamed B.named
  have hlocks := B.notSynchronized
  have hin : meth.name = "<init>" := (name_of_methodNamed B.named B.method).1
  rw [hH]
  have hl := lv_entry ([.ref q0, .int (nI v), .ref p1, .ref p2, .ref x]) (n := 5) (Nat.le_of_ble_eq_true rfl)
  rw [lg_entry_eq]
  generalize (lg_sl ([.ref q0, .int (nI v), .ref p1, .ref p2, .ref x]) ++ List.replicate (5 - (lg_sl ([.ref q0, .int (nI v), .ref p1, .ref p2, .ref x])).length) Slot.unset).toArray = ls at hl ⊢
  have hl : lv_has ls 5 [(0, .ref q0), (1, .int (nI v)), (2, .ref p1), (3, .ref p2), (4, .ref x)] := hl
  have hlt0 := ho.lt
  have hltx := hox.lt
  have hltwx := hwx.lt
  have hF0 : Fr (fun x => x = q0) H H := Fr.rf
  have hltp1 := hp1.lt
  have hltm1 := hm1.lt
  have hltp2 := hp2.lt
  have hltm2 := hm2.lt
  refine lv_aload_n hx hb dX2_init_0 rfl (lv_at hl 0 rfl) ?_
  refine W.objInit hx hb hown (hts (.methodLink RX2 3 objectInit) (by decide +kernel)) (hts (.instanceMethod objectInit) (by decide +kernel)) (hts (.code objectInit ⟨#[0xb1]⟩ 1 none) (by decide +kernel)) rfl (by rw [hml]; exact hl.1) rfl dX2_init_1 (Nat.le_of_ble_eq_true rfl) (Nat.le_of_ble_eq_true rfl) ?_
  refine W.eq (g2 := F0 m 4 ls []) rfl ?_
  refine lv_aload_n hx hb dX2_init_4 rfl (lv_at hl 0 rfl) ?_
  refine k_new (ci := 1) (C := RX1) (T := TX1) (N := 1) (fs := [.null]) hx hb hts (by decide +kernel) tyX1 tyX1_ok hown (hts (.classLink RX2 9 RX1) (by decide +kernel)) (hts (.instantiable RX1 1) (by decide +kernel)) (hts (.initialized RX1) (by decide +kernel)) hK rfl (fun j hj => by rw [show j = 0 by omega]; rfl) (Nat.le_of_ble_eq_true rfl) (Nat.le_of_ble_eq_true rfl) dX2_init_5 (fun q_361 H_362 ho_363 hA_364 => ?_)
  refine W.widen (k := 1) (n := 1) (Nat.le_of_ble_eq_true rfl) (Nat.le_of_ble_eq_true rfl) ?_
  have hqe_q_361 := hA_364.1
  have ho_365 := ho.add hA_364
  have ho_366 := hox.add hA_364
  have ho_367 := hp1.add hA_364
  have ho_368 := hp2.add hA_364
  have hw_369 := hwx.add hA_364
  have hw_370 := hm1.add hA_364
  have hw_371 := hm2.add hA_364
  have hF_372 := hF0.add hA_364
  have hz_373 := hA_364.2.1
  refine lv_dup hx hb dX2_init_8 rfl ?_
  refine k_callU (va_runIN (As := []) (rest := [.ref q_361, .ref q0]) ⟨hx, hb, hml, hown, hts⟩ (c_X1_init l D g b0 H_362 q_361 ho_363 (by omega) (by omega)) ⟨va_cnB 0 hts gX2_init_X1_init_n11 rfl rfl rfl (hK.2.1 (RX2, 11, yX1_init) (List.mem_of_getElem? (i := 2) rfl)) (hts (.initialized RX1) (by decide +kernel)) (by decide +kernel) ⟨Nat.le_of_ble_eq_true rfl, Nat.le_of_ble_eq_true rfl⟩, rfl, hts (.instanceMethod yX1_init) (by decide +kernel)⟩ ⟨kPc_blind, fun U hU hW => kPc_at hK hU hW⟩ rfl rfl hl.1 rfl (lv_room (Nat.le_of_ble_eq_true rfl)) dX2_init_9 ⟨Nat.le_of_ble_eq_true rfl, Nat.le_of_ble_eq_true rfl⟩) LB.nil (fun Hi locsi hLBi hqi => ?_)
  refine W.widen (k := 2) (n := 65) (Nat.le_of_ble_eq_true rfl) (Nat.le_of_ble_eq_true rfl) ?_
  obtain ⟨q2, hq2s, hqi1, hqi2, hqi3⟩ := hqi
  have ho_374 := ho_365.chg hqi3 (by omega)
  have ho_375 := ho_366.chg hqi3 (by omega)
  have ho_376 := ho_367.chg hqi3 (by omega)
  have ho_377 := ho_368.chg hqi3 (by omega)
  have hw_378 := hw_369.chg hqi3 (by omega)
  have hw_379 := hw_370.chg hqi3 (by omega)
  have hw_380 := hw_371.chg hqi3 (by omega)
  have hF_381 := hF_372.chg hqi3 (Or.inr (by omega))
  have hz_382 := hqi3.1
  have hlq2 := hqi2.lt
  refine k_putF (ci := 2) (T := TX2) (N := 5) (v := .ref q_361) hx hb hts (by decide +kernel) tyX2 tyX2_ok nmX2 hown (hin) hK ho_374 hLBi hb0 rfl 3 (by decide) rfl (hts (.fieldLink RX2 12 RX2 "triples" "LVersionMerge$TripleSet;") (by decide +kernel)) rfl (ty := .object "VersionMerge$TripleSet") (by decide +kernel) rfl rfl (Nat.le_of_ble_eq_true rfl) dX2_init_12 (fun H_383 locs_384 ho_385 hC_386 hLB_387 => ?_)
  have ho_385 : HA D H_383 q0 (eO 2 [.int (0), .null, .null, .ref q_361, .null]) := ho_385
  have ho_388 := ho_375.chg hC_386 (by omega)
  have ho_389 := ho_376.chg hC_386 (by omega)
  have ho_390 := ho_377.chg hC_386 (by omega)
  have ho_391 := hqi1.chg hC_386 (by omega)
  have hw_392 := hw_378.chg hC_386 (by omega)
  have hw_393 := hw_379.chg hC_386 (by omega)
  have hw_394 := hw_380.chg hC_386 (by omega)
  have hw_395 := hqi2.chg hC_386 (by omega)
  have hF_396 := hF_381.chg hC_386 (Or.inl rfl)
  have hz_397 := hC_386.1
  refine lv_aload_n hx hb dX2_init_15 rfl (lv_at hl 0 rfl) ?_
  refine lv_sipush (v := nI 400) hx hb dX2_init_16 (by decide +kernel) ?_
  refine k_newa (atype := .boolean) hx hb (hts (.arrayClass .boolean) (by decide +kernel)) hK 3 (ty := .boolean) rfl rfl rfl (400, .inl (fun _ => 0)) (fun _ => rfl) (by decide +kernel) (by decide +kernel) (Nat.le_of_ble_eq_true rfl) (Nat.le_of_ble_eq_true rfl) (Nat.le_of_ble_eq_true rfl) dX2_init_19 (fun q_398 H_399 hw_400 hA_401 => ?_)
  refine W.widen (k := 3) (n := 465) (Nat.le_of_ble_eq_true rfl) (Nat.le_of_ble_eq_true rfl) ?_
  have hqe_q_398 := hA_401.1
  have ho_402 := ho_385.add hA_401
  have ho_403 := ho_388.add hA_401
  have ho_404 := ho_389.add hA_401
  have ho_405 := ho_390.add hA_401
  have ho_406 := ho_391.add hA_401
  have hw_407 := hw_392.add hA_401
  have hw_408 := hw_393.add hA_401
  have hw_409 := hw_394.add hA_401
  have hw_410 := hw_395.add hA_401
  have hF_411 := hF_396.add hA_401
  have hz_412 := hA_401.2.1
  have hw_413 : HA D H_399 q_398 (eI (g 3) 400 (fun j => b2i ((fun _ => false) j))) := hw_400
  refine k_putF (ci := 2) (T := TX2) (N := 5) (v := .ref q_398) hx hb hts (by decide +kernel) tyX2 tyX2_ok nmX2 hown (hin) hK ho_402 hLB_387 hb0 rfl 4 (by decide) rfl (hts (.fieldLink RX2 18 RX2 "ancestors" "[Z") (by decide +kernel)) rfl (ty := .array .boolean) (by decide +kernel) rfl rfl (Nat.le_of_ble_eq_true rfl) dX2_init_21 (fun H_414 locs_415 ho_416 hC_417 hLB_418 => ?_)
  have ho_416 : HA D H_414 q0 (eO 2 [.int (0), .null, .null, .ref q_361, .ref q_398]) := ho_416
  have ho_419 := ho_403.chg hC_417 (by omega)
  have ho_420 := ho_404.chg hC_417 (by omega)
  have ho_421 := ho_405.chg hC_417 (by omega)
  have ho_422 := ho_406.chg hC_417 (by omega)
  have hw_423 := hw_407.chg hC_417 (by omega)
  have hw_424 := hw_408.chg hC_417 (by omega)
  have hw_425 := hw_409.chg hC_417 (by omega)
  have hw_426 := hw_410.chg hC_417 (by omega)
  have hw_427 := hw_413.chg hC_417 (by omega)
  have hF_428 := hF_411.chg hC_417 (Or.inl rfl)
  have hz_429 := hC_417.1
  refine lv_aload_n hx hb dX2_init_24 rfl (lv_at hl 0 rfl) ?_
  refine lv_iload_n hx hb dX2_init_25 rfl (lv_at hl 1 rfl) ?_
  refine k_putF (ci := 2) (T := TX2) (N := 5) (v := .int (nI v)) hx hb hts (by decide +kernel) tyX2 tyX2_ok nmX2 hown (hin) hK ho_416 hLB_418 hb0 rfl 0 (by decide) rfl (hts (.fieldLink RX2 22 RX2 "number" "I") (by decide +kernel)) rfl (ty := .int) (by decide +kernel) rfl rfl (Nat.le_of_ble_eq_true rfl) dX2_init_26 (fun H_430 locs_431 ho_432 hC_433 hLB_434 => ?_)
  have ho_432 : HA D H_430 q0 (eO 2 [.int (nI v), .null, .null, .ref q_361, .ref q_398]) := ho_432
  have ho_435 := ho_419.chg hC_433 (by omega)
  have ho_436 := ho_420.chg hC_433 (by omega)
  have ho_437 := ho_421.chg hC_433 (by omega)
  have ho_438 := ho_422.chg hC_433 (by omega)
  have hw_439 := hw_423.chg hC_433 (by omega)
  have hw_440 := hw_424.chg hC_433 (by omega)
  have hw_441 := hw_425.chg hC_433 (by omega)
  have hw_442 := hw_426.chg hC_433 (by omega)
  have hw_443 := hw_427.chg hC_433 (by omega)
  have hF_444 := hF_428.chg hC_433 (Or.inl rfl)
  have hz_445 := hC_433.1
  refine lv_aload_n hx hb dX2_init_29 rfl (lv_at hl 0 rfl) ?_
  refine lv_aload_n hx hb dX2_init_30 rfl (lv_at hl 2 rfl) ?_
  refine k_putF (ci := 2) (T := TX2) (N := 5) (v := .ref p1) hx hb hts (by decide +kernel) tyX2 tyX2_ok nmX2 hown (hin) hK ho_432 hLB_434 hb0 rfl 1 (by decide) rfl (hts (.fieldLink RX2 26 RX2 "first" "LVersionMerge$Version;") (by decide +kernel)) rfl (ty := .object "VersionMerge$Version") (by decide +kernel) rfl rfl (Nat.le_of_ble_eq_true rfl) dX2_init_31 (fun H_446 locs_447 ho_448 hC_449 hLB_450 => ?_)
  have ho_448 : HA D H_446 q0 (eO 2 [.int (nI v), .ref p1, .null, .ref q_361, .ref q_398]) := ho_448
  have ho_451 := ho_435.chg hC_449 (by omega)
  have ho_452 := ho_436.chg hC_449 (by omega)
  have ho_453 := ho_437.chg hC_449 (by omega)
  have ho_454 := ho_438.chg hC_449 (by omega)
  have hw_455 := hw_439.chg hC_449 (by omega)
  have hw_456 := hw_440.chg hC_449 (by omega)
  have hw_457 := hw_441.chg hC_449 (by omega)
  have hw_458 := hw_442.chg hC_449 (by omega)
  have hw_459 := hw_443.chg hC_449 (by omega)
  have hF_460 := hF_444.chg hC_449 (Or.inl rfl)
  have hz_461 := hC_449.1
  refine lv_aload_n hx hb dX2_init_34 rfl (lv_at hl 0 rfl) ?_
  refine lv_aload_n hx hb dX2_init_35 rfl (lv_at hl 3 rfl) ?_
  refine k_putF (ci := 2) (T := TX2) (N := 5) (v := .ref p2) hx hb hts (by decide +kernel) tyX2 tyX2_ok nmX2 hown (hin) hK ho_448 hLB_450 hb0 rfl 2 (by decide) rfl (hts (.fieldLink RX2 30 RX2 "second" "LVersionMerge$Version;") (by decide +kernel)) rfl (ty := .object "VersionMerge$Version") (by decide +kernel) rfl rfl (Nat.le_of_ble_eq_true rfl) dX2_init_36 (fun H_462 locs_463 ho_464 hC_465 hLB_466 => ?_)
  have ho_464 : HA D H_462 q0 (eO 2 [.int (nI v), .ref p1, .ref p2, .ref q_361, .ref q_398]) := ho_464
  have ho_467 := ho_451.chg hC_465 (by omega)
  have ho_468 := ho_452.chg hC_465 (by omega)
  have ho_469 := ho_453.chg hC_465 (by omega)
  have ho_470 := ho_454.chg hC_465 (by omega)
  have hw_471 := hw_455.chg hC_465 (by omega)
  have hw_472 := hw_456.chg hC_465 (by omega)
  have hw_473 := hw_457.chg hC_465 (by omega)
  have hw_474 := hw_458.chg hC_465 (by omega)
  have hw_475 := hw_459.chg hC_465 (by omega)
  have hF_476 := hF_460.chg hC_465 (Or.inl rfl)
  have hz_477 := hC_465.1
  refine lv_aload_n hx hb dX2_init_39 rfl (lv_at hl 0 rfl) ?_
  refine k_get (ci := 2) (C := RX2) (T := TX2) (N := 5) (v := .ref q_361) hx hb hts (by decide +kernel) hown hK ho_464 rfl 3 (by decide) rfl (hts (.fieldLink RX2 12 RX2 "triples" "LVersionMerge$TripleSet;") (by decide +kernel)) rfl dX2_init_40 ?_
  refine lv_aload hx hb dX2_init_43 (lv_at hl 4 rfl) ?_
  refine k_callU (va_runVN (As := [.ref x]) (rest := []) ⟨hx, hb, hml, hown, hts⟩ (c_X1_becomeCopy l D g b0 H_462 q_361 q2 (fun _ => 0) ho_470 hw_474 (by omega) x wx fx ho_467 hw_471 hxb (by omega)) ⟨va_cnB 1 hts gX2_init_X1_becomeCopy_n33 rfl rfl rfl (hK.2.1 (RX2, 33, yX1_becomeCopy) (List.mem_of_getElem? (i := 3) rfl)) (hts (.initialized RX1) (by decide +kernel)) (by decide +kernel) ⟨Nat.le_of_ble_eq_true rfl, Nat.le_of_ble_eq_true rfl⟩, hts (.instanceMethod yX1_becomeCopy) (by decide +kernel), hts (.selects RX1 yX1_becomeCopy yX1_becomeCopy) (by decide +kernel)⟩ ⟨kPc_blind, k_recv hK ho_470 rfl, fun U hU hW => kPc_at hK hU hW⟩ rfl rfl hl.1 rfl (lv_room (Nat.le_of_ble_eq_true rfl)) dX2_init_45 ⟨Nat.le_of_ble_eq_true rfl, Nat.le_of_ble_eq_true rfl⟩) hLB_466 (fun Hb locsb hLBb hqb => ?_)
  obtain ⟨w1, hw1, hCb, hw1v⟩ := hqb
  have ho_478 := ho_464.chg hCb (by omega)
  have ho_479 := ho_467.chg hCb (by omega)
  have ho_480 := ho_468.chg hCb (by omega)
  have ho_481 := ho_469.chg hCb (by omega)
  have ho_482 := ho_470.chg hCb (by omega)
  have hw_483 := hw_471.chg hCb (by omega)
  have hw_484 := hw_472.chg hCb (by omega)
  have hw_485 := hw_473.chg hCb (by omega)
  have hw_486 := hw_475.chg hCb (by omega)
  have hF_487 := hF_476.chg hCb (Or.inr (by omega))
  have hz_488 := hCb.1
  refine lv_aload_n hx hb dX2_init_48 rfl (lv_at hl 0 rfl) ?_
  refine lv_aload_n hx hb dX2_init_49 rfl (lv_at hl 2 rfl) ?_
  refine k_callU (va_runV (As := [.ref p1]) (rest := []) ⟨hx, hb, hml, hown, hts⟩ (c_X2_takeAncestors_1 l D g b0 Hb q0 q_398 _ _ _ _ (fun _ => false) ho_478 hw_486 (by omega) p1 m1 _ _ _ _ a1 ho_480 hw_484 (by omega) (by omega) (by omega)) (cwV 1 hts gX2_init_X2_takeAncestors rfl rfl rfl (by decide +kernel) ⟨Nat.le_of_ble_eq_true rfl, Nat.le_of_ble_eq_true rfl⟩) ⟨kPc_blind, k_recv hK ho_478 rfl, fun U hU hW => kPc_at hK hU hW⟩ rfl rfl hl.1 rfl (lv_room (Nat.le_of_ble_eq_true rfl)) dX2_init_50 ⟨Nat.le_of_ble_eq_true rfl, Nat.le_of_ble_eq_true rfl⟩) hLBb (fun Ht1 locst1 hLBt1 hqt1 => ?_)
  obtain ⟨an1, hat1, hCt1, hav1⟩ := hqt1
  have ho_489 := ho_478.chg hCt1 (by omega)
  have ho_490 := ho_479.chg hCt1 (by omega)
  have ho_491 := ho_480.chg hCt1 (by omega)
  have ho_492 := ho_481.chg hCt1 (by omega)
  have ho_493 := ho_482.chg hCt1 (by omega)
  have hw_494 := hw_483.chg hCt1 (by omega)
  have hw_495 := hw_484.chg hCt1 (by omega)
  have hw_496 := hw_485.chg hCt1 (by omega)
  have hw_497 := hw1.chg hCt1 (by omega)
  have hF_498 := hF_487.chg hCt1 (Or.inr (by omega))
  have hz_499 := hCt1.1
  refine lv_aload_n hx hb dX2_init_53 rfl (lv_at hl 0 rfl) ?_
  refine lv_aload_n hx hb dX2_init_54 rfl (lv_at hl 3 rfl) ?_
  refine k_callU (va_runV (As := [.ref p2]) (rest := []) ⟨hx, hb, hml, hown, hts⟩ (c_X2_takeAncestors_1 l D g b0 Ht1 q0 q_398 _ _ _ _ an1 ho_489 hat1 (by omega) p2 m2 _ _ _ _ a2 ho_492 hw_496 (by omega) (by omega) (by omega)) (cwV 1 hts gX2_init_X2_takeAncestors rfl rfl rfl (by decide +kernel) ⟨Nat.le_of_ble_eq_true rfl, Nat.le_of_ble_eq_true rfl⟩) ⟨kPc_blind, k_recv hK ho_489 rfl, fun U hU hW => kPc_at hK hU hW⟩ rfl rfl hl.1 rfl (lv_room (Nat.le_of_ble_eq_true rfl)) dX2_init_55 ⟨Nat.le_of_ble_eq_true rfl, Nat.le_of_ble_eq_true rfl⟩) hLBt1 (fun Ht2 locst2 hLBt2 hqt2 => ?_)
  obtain ⟨an2, hat2, hCt2, hav2⟩ := hqt2
  have ho_500 := ho_489.chg hCt2 (by omega)
  have ho_501 := ho_490.chg hCt2 (by omega)
  have ho_502 := ho_491.chg hCt2 (by omega)
  have ho_503 := ho_492.chg hCt2 (by omega)
  have ho_504 := ho_493.chg hCt2 (by omega)
  have hw_505 := hw_494.chg hCt2 (by omega)
  have hw_506 := hw_495.chg hCt2 (by omega)
  have hw_507 := hw_496.chg hCt2 (by omega)
  have hw_508 := hw_497.chg hCt2 (by omega)
  have hF_509 := hF_498.chg hCt2 (Or.inr (by omega))
  have hz_510 := hCt2.1
  refine lv_iload_n hx hb dX2_init_58 rfl (lv_at hl 1 rfl) ?_
  refine n_if_lt (tgt := 76) hx hb dX2_init_59 (by decide) (by omega) ?_
  refine lv_iload_n hx hb dX2_init_62 rfl (lv_at hl 1 rfl) ?_
  refine lv_sipush (v := nI 400) hx hb dX2_init_63 (by decide +kernel) ?_
  refine n_icmp_ge (tgt := 76) hx hb dX2_init_66 (by decide) (by omega) (by omega) (fun c_512 => ?_) (fun c_512 => ?_)
  · skip
    exact absurd hv (by omega)
  · skip
    refine lv_aload_n hx hb dX2_init_69 rfl (lv_at hl 0 rfl) ?_
    refine k_get (ci := 2) (C := RX2) (T := TX2) (N := 5) (v := .ref q_398) hx hb hts (by decide +kernel) hown hK ho_500 rfl 4 (by decide) rfl (hts (.fieldLink RX2 18 RX2 "ancestors" "[Z") (by decide +kernel)) rfl dX2_init_70 ?_
    refine lv_iload_n hx hb dX2_init_73 rfl (lv_at hl 1 rfl) ?_
    refine lv_iconst (v := b2i true) hx hb dX2_init_74 (by decide +kernel) ?_
    refine k_zast (y := b2i true) hx hb hK hat2 hLBt2 (by omega) (v) rfl (by omega) (by omega) (b2i_z _) dX2_init_75 (fun H_513 locs_514 hw_515 hC_516 hLB_517 => ?_)
    rw [upd_b2i] at hw_515
    have ho_518 := ho_500.chg hC_516 (by omega)
    have ho_519 := ho_501.chg hC_516 (by omega)
    have ho_520 := ho_502.chg hC_516 (by omega)
    have ho_521 := ho_503.chg hC_516 (by omega)
    have ho_522 := ho_504.chg hC_516 (by omega)
    have hw_523 := hw_505.chg hC_516 (by omega)
    have hw_524 := hw_506.chg hC_516 (by omega)
    have hw_525 := hw_507.chg hC_516 (by omega)
    have hw_526 := hw_508.chg hC_516 (by omega)
    have hF_527 := hF_509.chg hC_516 (Or.inr (by omega))
    have hz_528 := hC_516.1
    refine r_vU hx hb hr hLB_517 (Nat.le_refl _) (Nat.le_refl _) ⟨q_361, q2, q_398, w1, _, by omega, by omega, by omega, ho_518, ho_522, hw_526, hw_515, hF_527.to (fun _ h => h), hw1v, ?_⟩ dX2_init_76 hlocks
    intro j hj
    by_cases e : j = v
    · subst e
      rw [up_eq, show decide (j = j) = true from decide_eq_true rfl]
      try simp
    · rw [up_ne _ _ e, hav2 j hj, hav1 j hj, show decide (j = v) = false from decide_eq_false e]
      try simp

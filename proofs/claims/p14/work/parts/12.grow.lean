/-! 12: a version more, a branch more, a step on a branch, a new object (the walks are laid by wip/gen/cls12.py) -/
def PGrow (D : va_G) (g : Nat → ClassId) (b0 : Nat) (H : Heap) (A : Nat → Nat) (σ : SG) (dw : Nat → Int64) (f s : Option Nat) (fs : Nat → Int64) (a : Nat) (H1 : Heap) : Prop := ∃ (q1 q2 q3 : Nat) (w1 : Nat → Int64) (an1 : Nat → Bool), CR D g b0 (AV A (sV σ) a q1 q2 q3) (gGrow σ f s w1 an1) dw H1 ∧ CFr H A σ H1 (AV A (sV σ) a q1 q2 q3) (gGrow σ f s w1 an1) ∧ (∀ j, j < 64 → w1 j = fs j) ∧ AnOK σ (sV σ) f s an1
/-- the state after a step of branch b -/
abbrev gStep (σ : SG) (b : Nat) (s : Option Nat) (w1 : Nat → Int64) (an1 : Nat → Bool) : SG := gHead (gGrow σ (some (sH σ b)) s w1 an1) b (sV σ)
def PAdv (D : va_G) (g : Nat → ClassId) (b0 : Nat) (H : Heap) (A : Nat → Nat) (σ : SG) (dw : Nat → Int64) (b : Nat) (s : Option Nat) (fs : Nat → Int64) (H1 : Heap) : Prop := ∃ (A1 : Nat → Nat) (w1 : Nat → Int64) (an1 : Nat → Bool), CR D g b0 A1 (gStep σ b s w1 an1) dw H1 ∧ CFr H A σ H1 A1 (gStep σ b s w1 an1) ∧ (∀ j, j < 64 → w1 j = fs j) ∧ AnOK σ (sV σ) (some (sH σ b)) s an1
set_option maxHeartbeats 4000000 in
set_option maxRecDepth 100000 in
theorem c_X3_addVersion_full_00 (l : Launch) (D : va_G) (g : Nat → ClassId) (b0 : Nat) (H : Heap) (A : Nat → Nat) (σ : SG) (dw : Nat → Int64) (hC : CR D g b0 A σ dw H) (hV : ¬ sV σ < 400) (cs : Nat) : Met l yX3_addVersion wsX3_addVersion ({ frames := 0, cells := 0, slots := 0, locals := 0 } : Room) (kPc D g [.ref (A 0), .null, .null, .ref (A cs)] H) (kX .null H) 0 0 kN := by
  refine Met.ofW (cc := cX3_addVersion) (maxL := 5) (ret := (some (.object "VersionMerge$Version"))) (by decide) rfl ?_
  intro p e s m args below meth c s₁ B hml hv
  obtain ⟨rfl, hH, hK⟩ := hv
  have hx := B.exec
  have hb := B.bytes
  have hr := B.returns
  have hts := atoms_spec (ws := wsX3_addVersion) B.pre
  have hown : s.vm.findClass RX3 = some m.cls := findClass_of_methodNamed B.named
  have hlocks := B.notSynchronized
  rw [hH]
  have hl := lv_entry ([.ref (A 0), .null, .null, .ref (A cs)]) (n := 5) (Nat.le_of_ble_eq_true rfl)
  rw [lg_entry_eq]
  generalize (lg_sl ([.ref (A 0), .null, .null, .ref (A cs)]) ++ List.replicate (5 - (lg_sl ([.ref (A 0), .null, .null, .ref (A cs)])).length) Slot.unset).toArray = ls at hl ⊢
  have hl : lv_has ls 5 [(0, .ref (A 0)), (1, .null), (2, .null), (3, .ref (A cs))] := hl
  have hVB := hC.wf
  have hV4 : sV σ ≤ 400 := hVB.2.1
  have hB4 : sB σ ≤ 40 := hVB.2.2.2.1
  refine lv_aload_n hx hb dX3_addVersion_0 rfl (lv_at hl 0 rfl) ?_
  refine k_get (ci := 3) (C := RX3) (T := TX3) (N := 7) (v := .int (nI (sV σ))) hx hb hts (by decide +kernel) hown hK hC.o rfl 2 (by decide) rfl (hts (.fieldLink RX3 146 RX3 "versionCount" "I") (by decide +kernel)) rfl dX3_addVersion_1 ?_
  refine n_if_lt (tgt := 17) hx hb dX3_addVersion_4 (by decide) (by omega) ?_
  refine lv_aload_n hx hb dX3_addVersion_7 rfl (lv_at hl 0 rfl) ?_
  refine k_get (ci := 3) (C := RX3) (T := TX3) (N := 7) (v := .int (nI (sV σ))) hx hb hts (by decide +kernel) hown hK hC.o rfl 2 (by decide) rfl (hts (.fieldLink RX3 146 RX3 "versionCount" "I") (by decide +kernel)) rfl dX3_addVersion_8 ?_
  refine lv_sipush (v := nI 400) hx hb dX3_addVersion_11 (by decide +kernel) ?_
  refine n_icmp_lt (tgt := 19) hx hb dX3_addVersion_14 (by decide) (by omega) (by omega) (fun c_551 => ?_) (fun c_551 => ?_)
  · skip
    exact absurd c_551 hV
  · skip
    refine lv_null hx hb dX3_addVersion_17 ?_
    exact r_aX hx hb hr (Or.inl rfl) dX3_addVersion_18 hlocks
set_option maxHeartbeats 4000000 in
set_option maxRecDepth 100000 in
/-- addVersion: there is room -/
theorem c_X3_addVersion_00 (l : Launch) (D : va_G) (g : Nat → ClassId) (b0 : Nat) (H : Heap) (A : Nat → Nat) (σ : SG) (dw : Nat → Int64) (hC : CR D g b0 A σ dw H) (cs : Nat) (fs : Nat → Int64) (hcs1 : cLive σ cs) (hcs2 : cLive σ (cs + 1)) (hs : HA D H (A cs) (eO 1 [.ref (A (cs + 1))])) (hw : HA D H (A (cs + 1)) (eL (g 2) 64 fs)) (hbH : b0 ≤ H.size) (hV : sV σ < 400) : Met l yX3_addVersion wsX3_addVersion ({ frames := 3, cells := 4, slots := 470, locals := 85 } : Room) (kPc D g [.ref (A 0), .null, .null, .ref (A cs)] H) (kR (PGrow D g b0 H A σ dw none none fs)) 4 470 (kF b0) := by
  refine Met.ofW (cc := cX3_addVersion) (maxL := 5) (ret := (some (.object "VersionMerge$Version"))) (by decide) rfl ?_
  intro p e s m args below meth c s₁ B hml hv
  obtain ⟨rfl, hH, hK⟩ := hv
  have hx := B.exec
  have hb := B.bytes
  have hr := B.returns
  have hts := atoms_spec (ws := wsX3_addVersion) B.pre
  have hown : s.vm.findClass RX3 = some m.cls := findClass_of_methodNamed B.named
  have hlocks := B.notSynchronized
  rw [hH]
  have hl := lv_entry ([.ref (A 0), .null, .null, .ref (A cs)]) (n := 5) (Nat.le_of_ble_eq_true rfl)
  rw [lg_entry_eq]
  generalize (lg_sl ([.ref (A 0), .null, .null, .ref (A cs)]) ++ List.replicate (5 - (lg_sl ([.ref (A 0), .null, .null, .ref (A cs)])).length) Slot.unset).toArray = ls at hl ⊢
  have hl : lv_has ls 5 [(0, .ref (A 0)), (1, .null), (2, .null), (3, .ref (A cs))] := hl
  have hVB := hC.wf
  have hV4 : sV σ ≤ 400 := hVB.2.1
  have hB4 : sB σ ≤ 40 := hVB.2.2.2.1
  refine lv_aload_n hx hb dX3_addVersion_0 rfl (lv_at hl 0 rfl) ?_
  refine k_get (ci := 3) (C := RX3) (T := TX3) (N := 7) (v := .int (nI (sV σ))) hx hb hts (by decide +kernel) hown hK hC.o rfl 2 (by decide) rfl (hts (.fieldLink RX3 146 RX3 "versionCount" "I") (by decide +kernel)) rfl dX3_addVersion_1 ?_
  refine n_if_lt (tgt := 17) hx hb dX3_addVersion_4 (by decide) (by omega) ?_
  refine lv_aload_n hx hb dX3_addVersion_7 rfl (lv_at hl 0 rfl) ?_
  refine k_get (ci := 3) (C := RX3) (T := TX3) (N := 7) (v := .int (nI (sV σ))) hx hb hts (by decide +kernel) hown hK hC.o rfl 2 (by decide) rfl (hts (.fieldLink RX3 146 RX3 "versionCount" "I") (by decide +kernel)) rfl dX3_addVersion_8 ?_
  refine lv_sipush (v := nI 400) hx hb dX3_addVersion_11 (by decide +kernel) ?_
  refine n_icmp_lt (tgt := 19) hx hb dX3_addVersion_14 (by decide) (by omega) (by omega) (fun c_553 => ?_) (fun c_553 => ?_)
  · skip
    have hlt_554 := hC.o.lt
    have hlt_555 := hs.lt
    have hlt_556 := hw.lt
    have hlt_557 := hC.vr.lt
    have hne01 : A 0 ≠ A 1 := hC.ne (cl0 (by omega)) (cl0 (by omega)) (by omega)
    have hgs := hC.ge hcs2
    have hF0 : Fr (fun x => x = A 0 ∨ x = A 1) H H := Fr.rf
    refine k_new (ci := 2) (C := RX2) (T := TX2) (N := 5) (fs := [.int (0), .null, .null, .null, .null]) hx hb hts (by decide +kernel) tyX2 tyX2_ok hown (hts (.classLink RX3 9 RX2) (by decide +kernel)) (hts (.instantiable RX2 5) (by decide +kernel)) (hts (.initialized RX2) (by decide +kernel)) hK rfl (fun j hj => by rcases (show j = 0 ∨ j = 1 ∨ j = 2 ∨ j = 3 ∨ j = 4 by omega) with rfl | rfl | rfl | rfl | rfl <;> rfl) (Nat.le_of_ble_eq_true rfl) (Nat.le_of_ble_eq_true rfl) dX3_addVersion_19 (fun q_558 H_559 ho_560 hA_561 => ?_)
    refine W.widen (k := 1) (n := 5) (Nat.le_of_ble_eq_true rfl) (Nat.le_of_ble_eq_true rfl) ?_
    have hqe_q_558 := hA_561.1
    have ho_562 := hC.o.add hA_561
    have ho_563 := hs.add hA_561
    have hw_564 := hw.add hA_561
    have hw_565 := hC.vr.add hA_561
    have hF_566 := hF0.add hA_561
    have hz_567 := hA_561.2.1
    refine lv_dup hx hb dX3_addVersion_22 rfl ?_
    refine lv_aload_n hx hb dX3_addVersion_23 rfl (lv_at hl 0 rfl) ?_
    refine k_get (ci := 3) (C := RX3) (T := TX3) (N := 7) (v := .int (nI (sV σ))) hx hb hts (by decide +kernel) hown hK ho_562 rfl 2 (by decide) rfl (hts (.fieldLink RX3 146 RX3 "versionCount" "I") (by decide +kernel)) rfl dX3_addVersion_24 ?_
    refine lv_aload_nN hx hb dX3_addVersion_27 rfl (lv_at hl 1 rfl) ?_
    refine lv_aload_nN hx hb dX3_addVersion_28 rfl (lv_at hl 2 rfl) ?_
    refine lv_aload_n hx hb dX3_addVersion_29 rfl (lv_at hl 3 rfl) ?_
    refine k_callU (va_runIN (As := [.int (nI (sV σ)), .null, .null, .ref (A cs)]) (rest := [.ref q_558]) ⟨hx, hb, hml, hown, hts⟩ (c_X2_init_00 l D g b0 H_559 q_558 ho_560 (by omega) (by omega) (sV σ) hV (A cs) (A (cs + 1)) fs ho_563 hw_564 hgs (by omega) (by omega)) ⟨va_cnB 4 hts gX3_addVersion_X2_init_n152 rfl rfl rfl (hK.2.1 (RX3, 152, yX2_init) (List.mem_of_getElem? (i := 1) rfl)) (hts (.initialized RX2) (by decide +kernel)) (by decide +kernel) ⟨Nat.le_of_ble_eq_true rfl, Nat.le_of_ble_eq_true rfl⟩, rfl, hts (.instanceMethod yX2_init) (by decide +kernel)⟩ ⟨kPc_blind, fun U hU hW => kPc_at hK hU hW⟩ rfl rfl hl.1 rfl (lv_room (Nat.le_of_ble_eq_true rfl)) dX3_addVersion_30 ⟨Nat.le_of_ble_eq_true rfl, Nat.le_of_ble_eq_true rfl⟩) LB.nil (fun Hi locsi hLBi hqi => ?_)
    refine W.widen (k := 4) (n := 470) (Nat.le_of_ble_eq_true rfl) (Nat.le_of_ble_eq_true rfl) ?_
    obtain ⟨q1, q2, q3, w1, an1, hq1s, h12, h23, k0, k1, k2, k3, hCi, hw1, han⟩ := hqi
    have ho_568 := ho_562.chg hCi (by omega)
    have hw_569 := hw_565.chg hCi (by omega)
    have hF_570 := hF_566.chg hCi (Or.inr (by omega))
    have hz_571 := hCi.1
    have hl1 := k1.lt
    have hl2 := k2.lt
    have hl3 := k3.lt
    refine lv_astore (lv' := [(4, .ref q_558), (0, .ref (A 0)), (1, .null), (2, .null), (3, .ref (A cs))]) hx hb dX3_addVersion_33 hl (by decide) rfl (fun ls hl => ?_)
    refine lv_aload_n hx hb dX3_addVersion_35 rfl (lv_at hl 1 rfl) ?_
    refine k_get (ci := 3) (C := RX3) (T := TX3) (N := 7) (v := .ref (A 1)) hx hb hts (by decide +kernel) hown hK ho_568 rfl 0 (by decide) rfl (hts (.fieldLink RX3 11 RX3 "versionRow" "[LVersionMerge$Version;") (by decide +kernel)) rfl dX3_addVersion_36 ?_
    refine lv_aload_n hx hb dX3_addVersion_39 rfl (lv_at hl 1 rfl) ?_
    refine k_get (ci := 3) (C := RX3) (T := TX3) (N := 7) (v := .int (nI (sV σ))) hx hb hts (by decide +kernel) hown hK ho_568 rfl 2 (by decide) rfl (hts (.fieldLink RX3 146 RX3 "versionCount" "I") (by decide +kernel)) rfl dX3_addVersion_40 ?_
    refine lv_aload hx hb dX3_addVersion_43 (lv_at hl 0 rfl) ?_
    refine k_aast (r := (RX2, TX2, 5)) hx hb hK 5 rfl hw_569 k0 rfl hLBi (hC.ge (cl0 (by omega))) (sV σ) rfl (by omega) (by omega) dX3_addVersion_45 (fun H_572 locs_573 hw_574 hC_575 hLB_576 => ?_)
    have ho_577 := ho_568.chg hC_575 (by omega)
    have ho_578 := k0.chg hC_575 (by omega)
    have ho_579 := k1.chg hC_575 (by omega)
    have hw_580 := k2.chg hC_575 (by omega)
    have hw_581 := k3.chg hC_575 (by omega)
    have hF_582 := hF_570.chg hC_575 (Or.inl (Or.inr rfl))
    have hz_583 := hC_575.1
    refine lv_aload_n hx hb dX3_addVersion_46 rfl (lv_at hl 1 rfl) ?_
    refine lv_dup hx hb dX3_addVersion_47 rfl ?_
    refine k_get (ci := 3) (C := RX3) (T := TX3) (N := 7) (v := .int (nI (sV σ))) hx hb hts (by decide +kernel) hown hK ho_577 rfl 2 (by decide) rfl (hts (.fieldLink RX3 146 RX3 "versionCount" "I") (by decide +kernel)) rfl dX3_addVersion_48 ?_
    refine lv_iconst (v := nI 1) hx hb dX3_addVersion_51 (by decide +kernel) ?_
    refine lv_iadd hx hb dX3_addVersion_52 ?_
    refine lv_topi (nm_r (show (nI (sV σ)) + (nI 1) = nI (sV σ + 1) from nI_add _ _) ?_)
    refine k_put (ci := 3) (T := TX3) (N := 7) (v := .int (nI (sV σ + 1))) hx hb hts (by decide +kernel) tyX3 tyX3_ok nmX3 hown hK ho_577 hLB_576 (hC.ge (cl0 (by omega))) rfl 2 (by decide) rfl (hts (.fieldLink RX3 146 RX3 "versionCount" "I") (by decide +kernel)) rfl (ty := .int) (by decide +kernel) rfl rfl (Nat.le_of_ble_eq_true rfl) dX3_addVersion_53 (fun H_584 locs_585 ho_586 hC_587 hLB_588 => ?_)
    have ho_586 : HA D H_584 (A 0) (eO 3 [.ref (A 1), .ref (A 2), .int (nI (sV σ + 1)), .int (nI (sB σ)), .ref (A 3), .ref (A 5), .ref (A 7)]) := ho_586
    have ho_589 := ho_578.chg hC_587 (by omega)
    have ho_590 := ho_579.chg hC_587 (by omega)
    have hw_591 := hw_574.chg hC_587 (by omega)
    have hw_592 := hw_580.chg hC_587 (by omega)
    have hw_593 := hw_581.chg hC_587 (by omega)
    have hF_594 := hF_582.chg hC_587 (Or.inl (Or.inl rfl))
    have hz_595 := hC_587.1
    refine lv_aload hx hb dX3_addVersion_56 (lv_at hl 0 rfl) ?_
    have hAn : AnOK σ (sV σ) none none an1 := fun j hj => by rw [han j hj]; simp [anO]
    have hfin := hC.addV (f := none) (s := none) (w := w1) (an := an1) (q0 := q_558) (q1 := q1) (q2 := q2) (q3 := q3) hV (fun p hp => by cases hp) (fun p hp => by cases hp) hAn hbH (by omega) (by omega) h12 h23 hF_594.1 (fun q hq g0 g1 => hF_594.2 q hq (fun z => z.elim g0 g1)) ho_589 ho_590 hw_592 hw_593 ho_586 hw_591
    exact r_aR hx hb hr hLB_588 (Nat.le_refl _) (Nat.le_refl _) ⟨q1, q2, q3, w1, an1, hfin.1, hfin.2, hw1, hAn⟩ dX3_addVersion_58 hlocks
  · skip
    exact absurd hV (by omega)
set_option maxHeartbeats 4000000 in
set_option maxRecDepth 100000 in
theorem c_X3_addVersion_full_10 (l : Launch) (D : va_G) (g : Nat → ClassId) (b0 : Nat) (H : Heap) (A : Nat → Nat) (σ : SG) (dw : Nat → Int64) (hC : CR D g b0 A σ dw H) (hV : ¬ sV σ < 400) (u : Nat) (cs : Nat) : Met l yX3_addVersion wsX3_addVersion ({ frames := 0, cells := 0, slots := 0, locals := 0 } : Room) (kPc D g [.ref (A 0), .ref (A (16 + 4 * u)), .null, .ref (A cs)] H) (kX .null H) 0 0 kN := by
  refine Met.ofW (cc := cX3_addVersion) (maxL := 5) (ret := (some (.object "VersionMerge$Version"))) (by decide) rfl ?_
  intro p e s m args below meth c s₁ B hml hv
  obtain ⟨rfl, hH, hK⟩ := hv
  have hx := B.exec
  have hb := B.bytes
  have hr := B.returns
  have hts := atoms_spec (ws := wsX3_addVersion) B.pre
  have hown : s.vm.findClass RX3 = some m.cls := findClass_of_methodNamed B.named
  have hlocks := B.notSynchronized
  rw [hH]
  have hl := lv_entry ([.ref (A 0), .ref (A (16 + 4 * u)), .null, .ref (A cs)]) (n := 5) (Nat.le_of_ble_eq_true rfl)
  rw [lg_entry_eq]
  generalize (lg_sl ([.ref (A 0), .ref (A (16 + 4 * u)), .null, .ref (A cs)]) ++ List.replicate (5 - (lg_sl ([.ref (A 0), .ref (A (16 + 4 * u)), .null, .ref (A cs)])).length) Slot.unset).toArray = ls at hl ⊢
  have hl : lv_has ls 5 [(0, .ref (A 0)), (1, .ref (A (16 + 4 * u))), (2, .null), (3, .ref (A cs))] := hl
  have hVB := hC.wf
  have hV4 : sV σ ≤ 400 := hVB.2.1
  have hB4 : sB σ ≤ 40 := hVB.2.2.2.1
  refine lv_aload_n hx hb dX3_addVersion_0 rfl (lv_at hl 0 rfl) ?_
  refine k_get (ci := 3) (C := RX3) (T := TX3) (N := 7) (v := .int (nI (sV σ))) hx hb hts (by decide +kernel) hown hK hC.o rfl 2 (by decide) rfl (hts (.fieldLink RX3 146 RX3 "versionCount" "I") (by decide +kernel)) rfl dX3_addVersion_1 ?_
  refine n_if_lt (tgt := 17) hx hb dX3_addVersion_4 (by decide) (by omega) ?_
  refine lv_aload_n hx hb dX3_addVersion_7 rfl (lv_at hl 0 rfl) ?_
  refine k_get (ci := 3) (C := RX3) (T := TX3) (N := 7) (v := .int (nI (sV σ))) hx hb hts (by decide +kernel) hown hK hC.o rfl 2 (by decide) rfl (hts (.fieldLink RX3 146 RX3 "versionCount" "I") (by decide +kernel)) rfl dX3_addVersion_8 ?_
  refine lv_sipush (v := nI 400) hx hb dX3_addVersion_11 (by decide +kernel) ?_
  refine n_icmp_lt (tgt := 19) hx hb dX3_addVersion_14 (by decide) (by omega) (by omega) (fun c_597 => ?_) (fun c_597 => ?_)
  · skip
    exact absurd c_597 hV
  · skip
    refine lv_null hx hb dX3_addVersion_17 ?_
    exact r_aX hx hb hr (Or.inl rfl) dX3_addVersion_18 hlocks
set_option maxHeartbeats 4000000 in
set_option maxRecDepth 100000 in
/-- addVersion: there is room -/
theorem c_X3_addVersion_10 (l : Launch) (D : va_G) (g : Nat → ClassId) (b0 : Nat) (H : Heap) (A : Nat → Nat) (σ : SG) (dw : Nat → Int64) (hC : CR D g b0 A σ dw H) (cs : Nat) (fs : Nat → Int64) (hcs1 : cLive σ cs) (hcs2 : cLive σ (cs + 1)) (hs : HA D H (A cs) (eO 1 [.ref (A (cs + 1))])) (hw : HA D H (A (cs + 1)) (eL (g 2) 64 fs)) (hbH : b0 ≤ H.size) (hV : sV σ < 400) (u : Nat) (hu : u < sV σ) : Met l yX3_addVersion wsX3_addVersion ({ frames := 3, cells := 4, slots := 470, locals := 85 } : Room) (kPc D g [.ref (A 0), .ref (A (16 + 4 * u)), .null, .ref (A cs)] H) (kR (PGrow D g b0 H A σ dw (some u) none fs)) 4 470 (kF b0) := by
  refine Met.ofW (cc := cX3_addVersion) (maxL := 5) (ret := (some (.object "VersionMerge$Version"))) (by decide) rfl ?_
  intro p e s m args below meth c s₁ B hml hv
  obtain ⟨rfl, hH, hK⟩ := hv
  have hx := B.exec
  have hb := B.bytes
  have hr := B.returns
  have hts := atoms_spec (ws := wsX3_addVersion) B.pre
  have hown : s.vm.findClass RX3 = some m.cls := findClass_of_methodNamed B.named
  have hlocks := B.notSynchronized
  rw [hH]
  have hl := lv_entry ([.ref (A 0), .ref (A (16 + 4 * u)), .null, .ref (A cs)]) (n := 5) (Nat.le_of_ble_eq_true rfl)
  rw [lg_entry_eq]
  generalize (lg_sl ([.ref (A 0), .ref (A (16 + 4 * u)), .null, .ref (A cs)]) ++ List.replicate (5 - (lg_sl ([.ref (A 0), .ref (A (16 + 4 * u)), .null, .ref (A cs)])).length) Slot.unset).toArray = ls at hl ⊢
  have hl : lv_has ls 5 [(0, .ref (A 0)), (1, .ref (A (16 + 4 * u))), (2, .null), (3, .ref (A cs))] := hl
  have hVB := hC.wf
  have hV4 : sV σ ≤ 400 := hVB.2.1
  have hB4 : sB σ ≤ 40 := hVB.2.2.2.1
  refine lv_aload_n hx hb dX3_addVersion_0 rfl (lv_at hl 0 rfl) ?_
  refine k_get (ci := 3) (C := RX3) (T := TX3) (N := 7) (v := .int (nI (sV σ))) hx hb hts (by decide +kernel) hown hK hC.o rfl 2 (by decide) rfl (hts (.fieldLink RX3 146 RX3 "versionCount" "I") (by decide +kernel)) rfl dX3_addVersion_1 ?_
  refine n_if_lt (tgt := 17) hx hb dX3_addVersion_4 (by decide) (by omega) ?_
  refine lv_aload_n hx hb dX3_addVersion_7 rfl (lv_at hl 0 rfl) ?_
  refine k_get (ci := 3) (C := RX3) (T := TX3) (N := 7) (v := .int (nI (sV σ))) hx hb hts (by decide +kernel) hown hK hC.o rfl 2 (by decide) rfl (hts (.fieldLink RX3 146 RX3 "versionCount" "I") (by decide +kernel)) rfl dX3_addVersion_8 ?_
  refine lv_sipush (v := nI 400) hx hb dX3_addVersion_11 (by decide +kernel) ?_
  refine n_icmp_lt (tgt := 19) hx hb dX3_addVersion_14 (by decide) (by omega) (by omega) (fun c_599 => ?_) (fun c_599 => ?_)
  · skip
    have hlt_600 := hC.o.lt
    have hlt_601 := hs.lt
    have hlt_602 := (hC.ver hu).lt
    have hlt_603 := hw.lt
    have hlt_604 := hC.vr.lt
    have hlt_605 := (hC.an hu).lt
    have hne01 : A 0 ≠ A 1 := hC.ne (cl0 (by omega)) (cl0 (by omega)) (by omega)
    have hgs := hC.ge hcs2
    have hF0 : Fr (fun x => x = A 0 ∨ x = A 1) H H := Fr.rf
    refine k_new (ci := 2) (C := RX2) (T := TX2) (N := 5) (fs := [.int (0), .null, .null, .null, .null]) hx hb hts (by decide +kernel) tyX2 tyX2_ok hown (hts (.classLink RX3 9 RX2) (by decide +kernel)) (hts (.instantiable RX2 5) (by decide +kernel)) (hts (.initialized RX2) (by decide +kernel)) hK rfl (fun j hj => by rcases (show j = 0 ∨ j = 1 ∨ j = 2 ∨ j = 3 ∨ j = 4 by omega) with rfl | rfl | rfl | rfl | rfl <;> rfl) (Nat.le_of_ble_eq_true rfl) (Nat.le_of_ble_eq_true rfl) dX3_addVersion_19 (fun q_606 H_607 ho_608 hA_609 => ?_)
    refine W.widen (k := 1) (n := 5) (Nat.le_of_ble_eq_true rfl) (Nat.le_of_ble_eq_true rfl) ?_
    have hqe_q_606 := hA_609.1
    have ho_610 := hC.o.add hA_609
    have ho_611 := hs.add hA_609
    have ho_612 := (hC.ver hu).add hA_609
    have hw_613 := hw.add hA_609
    have hw_614 := hC.vr.add hA_609
    have hw_615 := (hC.an hu).add hA_609
    have hF_616 := hF0.add hA_609
    have hz_617 := hA_609.2.1
    refine lv_dup hx hb dX3_addVersion_22 rfl ?_
    refine lv_aload_n hx hb dX3_addVersion_23 rfl (lv_at hl 0 rfl) ?_
    refine k_get (ci := 3) (C := RX3) (T := TX3) (N := 7) (v := .int (nI (sV σ))) hx hb hts (by decide +kernel) hown hK ho_610 rfl 2 (by decide) rfl (hts (.fieldLink RX3 146 RX3 "versionCount" "I") (by decide +kernel)) rfl dX3_addVersion_24 ?_
    refine lv_aload_n hx hb dX3_addVersion_27 rfl (lv_at hl 1 rfl) ?_
    refine lv_aload_nN hx hb dX3_addVersion_28 rfl (lv_at hl 2 rfl) ?_
    refine lv_aload_n hx hb dX3_addVersion_29 rfl (lv_at hl 3 rfl) ?_
    refine k_callU (va_runIN (As := [.int (nI (sV σ)), .ref (A (16 + 4 * u)), .null, .ref (A cs)]) (rest := [.ref q_606]) ⟨hx, hb, hml, hown, hts⟩ (c_X2_init_10 l D g b0 H_607 q_606 ho_608 (by omega) (by omega) (sV σ) hV (A cs) (A (cs + 1)) fs ho_611 hw_613 hgs (by omega) (by omega) (A (16 + 4 * u)) (A (19 + 4 * u)) _ _ _ _ (sA σ u) ho_612 hw_615 (by omega) (by omega)) ⟨va_cnB 4 hts gX3_addVersion_X2_init_n152 rfl rfl rfl (hK.2.1 (RX3, 152, yX2_init) (List.mem_of_getElem? (i := 1) rfl)) (hts (.initialized RX2) (by decide +kernel)) (by decide +kernel) ⟨Nat.le_of_ble_eq_true rfl, Nat.le_of_ble_eq_true rfl⟩, rfl, hts (.instanceMethod yX2_init) (by decide +kernel)⟩ ⟨kPc_blind, fun U hU hW => kPc_at hK hU hW⟩ rfl rfl hl.1 rfl (lv_room (Nat.le_of_ble_eq_true rfl)) dX3_addVersion_30 ⟨Nat.le_of_ble_eq_true rfl, Nat.le_of_ble_eq_true rfl⟩) LB.nil (fun Hi locsi hLBi hqi => ?_)
    refine W.widen (k := 4) (n := 470) (Nat.le_of_ble_eq_true rfl) (Nat.le_of_ble_eq_true rfl) ?_
    obtain ⟨q1, q2, q3, w1, an1, hq1s, h12, h23, k0, k1, k2, k3, hCi, hw1, han⟩ := hqi
    have ho_618 := ho_610.chg hCi (by omega)
    have hw_619 := hw_614.chg hCi (by omega)
    have hF_620 := hF_616.chg hCi (Or.inr (by omega))
    have hz_621 := hCi.1
    have hl1 := k1.lt
    have hl2 := k2.lt
    have hl3 := k3.lt
    refine lv_astore (lv' := [(4, .ref q_606), (0, .ref (A 0)), (1, .ref (A (16 + 4 * u))), (2, .null), (3, .ref (A cs))]) hx hb dX3_addVersion_33 hl (by decide) rfl (fun ls hl => ?_)
    refine lv_aload_n hx hb dX3_addVersion_35 rfl (lv_at hl 1 rfl) ?_
    refine k_get (ci := 3) (C := RX3) (T := TX3) (N := 7) (v := .ref (A 1)) hx hb hts (by decide +kernel) hown hK ho_618 rfl 0 (by decide) rfl (hts (.fieldLink RX3 11 RX3 "versionRow" "[LVersionMerge$Version;") (by decide +kernel)) rfl dX3_addVersion_36 ?_
    refine lv_aload_n hx hb dX3_addVersion_39 rfl (lv_at hl 1 rfl) ?_
    refine k_get (ci := 3) (C := RX3) (T := TX3) (N := 7) (v := .int (nI (sV σ))) hx hb hts (by decide +kernel) hown hK ho_618 rfl 2 (by decide) rfl (hts (.fieldLink RX3 146 RX3 "versionCount" "I") (by decide +kernel)) rfl dX3_addVersion_40 ?_
    refine lv_aload hx hb dX3_addVersion_43 (lv_at hl 0 rfl) ?_
    refine k_aast (r := (RX2, TX2, 5)) hx hb hK 5 rfl hw_619 k0 rfl hLBi (hC.ge (cl0 (by omega))) (sV σ) rfl (by omega) (by omega) dX3_addVersion_45 (fun H_622 locs_623 hw_624 hC_625 hLB_626 => ?_)
    have ho_627 := ho_618.chg hC_625 (by omega)
    have ho_628 := k0.chg hC_625 (by omega)
    have ho_629 := k1.chg hC_625 (by omega)
    have hw_630 := k2.chg hC_625 (by omega)
    have hw_631 := k3.chg hC_625 (by omega)
    have hF_632 := hF_620.chg hC_625 (Or.inl (Or.inr rfl))
    have hz_633 := hC_625.1
    refine lv_aload_n hx hb dX3_addVersion_46 rfl (lv_at hl 1 rfl) ?_
    refine lv_dup hx hb dX3_addVersion_47 rfl ?_
    refine k_get (ci := 3) (C := RX3) (T := TX3) (N := 7) (v := .int (nI (sV σ))) hx hb hts (by decide +kernel) hown hK ho_627 rfl 2 (by decide) rfl (hts (.fieldLink RX3 146 RX3 "versionCount" "I") (by decide +kernel)) rfl dX3_addVersion_48 ?_
    refine lv_iconst (v := nI 1) hx hb dX3_addVersion_51 (by decide +kernel) ?_
    refine lv_iadd hx hb dX3_addVersion_52 ?_
    refine lv_topi (nm_r (show (nI (sV σ)) + (nI 1) = nI (sV σ + 1) from nI_add _ _) ?_)
    refine k_put (ci := 3) (T := TX3) (N := 7) (v := .int (nI (sV σ + 1))) hx hb hts (by decide +kernel) tyX3 tyX3_ok nmX3 hown hK ho_627 hLB_626 (hC.ge (cl0 (by omega))) rfl 2 (by decide) rfl (hts (.fieldLink RX3 146 RX3 "versionCount" "I") (by decide +kernel)) rfl (ty := .int) (by decide +kernel) rfl rfl (Nat.le_of_ble_eq_true rfl) dX3_addVersion_53 (fun H_634 locs_635 ho_636 hC_637 hLB_638 => ?_)
    have ho_636 : HA D H_634 (A 0) (eO 3 [.ref (A 1), .ref (A 2), .int (nI (sV σ + 1)), .int (nI (sB σ)), .ref (A 3), .ref (A 5), .ref (A 7)]) := ho_636
    have ho_639 := ho_628.chg hC_637 (by omega)
    have ho_640 := ho_629.chg hC_637 (by omega)
    have hw_641 := hw_624.chg hC_637 (by omega)
    have hw_642 := hw_630.chg hC_637 (by omega)
    have hw_643 := hw_631.chg hC_637 (by omega)
    have hF_644 := hF_632.chg hC_637 (Or.inl (Or.inl rfl))
    have hz_645 := hC_637.1
    refine lv_aload hx hb dX3_addVersion_56 (lv_at hl 0 rfl) ?_
    have hAn : AnOK σ (sV σ) (some u) none an1 := fun j hj => by rw [han j hj]; simp [anO]
    have hfin := hC.addV (f := (some u)) (s := none) (w := w1) (an := an1) (q0 := q_606) (q1 := q1) (q2 := q2) (q3 := q3) hV (fun p hp => by cases hp; exact hu) (fun p hp => by cases hp) hAn hbH (by omega) (by omega) h12 h23 hF_644.1 (fun q hq g0 g1 => hF_644.2 q hq (fun z => z.elim g0 g1)) ho_639 ho_640 hw_642 hw_643 ho_636 hw_641
    exact r_aR hx hb hr hLB_638 (Nat.le_refl _) (Nat.le_refl _) ⟨q1, q2, q3, w1, an1, hfin.1, hfin.2, hw1, hAn⟩ dX3_addVersion_58 hlocks
  · skip
    exact absurd hV (by omega)
set_option maxHeartbeats 4000000 in
set_option maxRecDepth 100000 in
theorem c_X3_addVersion_full_11 (l : Launch) (D : va_G) (g : Nat → ClassId) (b0 : Nat) (H : Heap) (A : Nat → Nat) (σ : SG) (dw : Nat → Int64) (hC : CR D g b0 A σ dw H) (hV : ¬ sV σ < 400) (u : Nat) (u2 : Nat) (cs : Nat) : Met l yX3_addVersion wsX3_addVersion ({ frames := 0, cells := 0, slots := 0, locals := 0 } : Room) (kPc D g [.ref (A 0), .ref (A (16 + 4 * u)), .ref (A (16 + 4 * u2)), .ref (A cs)] H) (kX .null H) 0 0 kN := by
  refine Met.ofW (cc := cX3_addVersion) (maxL := 5) (ret := (some (.object "VersionMerge$Version"))) (by decide) rfl ?_
  intro p e s m args below meth c s₁ B hml hv
  obtain ⟨rfl, hH, hK⟩ := hv
  have hx := B.exec
  have hb := B.bytes
  have hr := B.returns
  have hts := atoms_spec (ws := wsX3_addVersion) B.pre
  have hown : s.vm.findClass RX3 = some m.cls := findClass_of_methodNamed B.named
  have hlocks := B.notSynchronized
  rw [hH]
  have hl := lv_entry ([.ref (A 0), .ref (A (16 + 4 * u)), .ref (A (16 + 4 * u2)), .ref (A cs)]) (n := 5) (Nat.le_of_ble_eq_true rfl)
  rw [lg_entry_eq]
  generalize (lg_sl ([.ref (A 0), .ref (A (16 + 4 * u)), .ref (A (16 + 4 * u2)), .ref (A cs)]) ++ List.replicate (5 - (lg_sl ([.ref (A 0), .ref (A (16 + 4 * u)), .ref (A (16 + 4 * u2)), .ref (A cs)])).length) Slot.unset).toArray = ls at hl ⊢
  have hl : lv_has ls 5 [(0, .ref (A 0)), (1, .ref (A (16 + 4 * u))), (2, .ref (A (16 + 4 * u2))), (3, .ref (A cs))] := hl
  have hVB := hC.wf
  have hV4 : sV σ ≤ 400 := hVB.2.1
  have hB4 : sB σ ≤ 40 := hVB.2.2.2.1
  refine lv_aload_n hx hb dX3_addVersion_0 rfl (lv_at hl 0 rfl) ?_
  refine k_get (ci := 3) (C := RX3) (T := TX3) (N := 7) (v := .int (nI (sV σ))) hx hb hts (by decide +kernel) hown hK hC.o rfl 2 (by decide) rfl (hts (.fieldLink RX3 146 RX3 "versionCount" "I") (by decide +kernel)) rfl dX3_addVersion_1 ?_
  refine n_if_lt (tgt := 17) hx hb dX3_addVersion_4 (by decide) (by omega) ?_
  refine lv_aload_n hx hb dX3_addVersion_7 rfl (lv_at hl 0 rfl) ?_
  refine k_get (ci := 3) (C := RX3) (T := TX3) (N := 7) (v := .int (nI (sV σ))) hx hb hts (by decide +kernel) hown hK hC.o rfl 2 (by decide) rfl (hts (.fieldLink RX3 146 RX3 "versionCount" "I") (by decide +kernel)) rfl dX3_addVersion_8 ?_
  refine lv_sipush (v := nI 400) hx hb dX3_addVersion_11 (by decide +kernel) ?_
  refine n_icmp_lt (tgt := 19) hx hb dX3_addVersion_14 (by decide) (by omega) (by omega) (fun c_647 => ?_) (fun c_647 => ?_)
  · skip
    exact absurd c_647 hV
  · skip
    refine lv_null hx hb dX3_addVersion_17 ?_
    exact r_aX hx hb hr (Or.inl rfl) dX3_addVersion_18 hlocks
set_option maxHeartbeats 4000000 in
set_option maxRecDepth 100000 in
/-- addVersion: there is room -/
theorem c_X3_addVersion_11 (l : Launch) (D : va_G) (g : Nat → ClassId) (b0 : Nat) (H : Heap) (A : Nat → Nat) (σ : SG) (dw : Nat → Int64) (hC : CR D g b0 A σ dw H) (cs : Nat) (fs : Nat → Int64) (hcs1 : cLive σ cs) (hcs2 : cLive σ (cs + 1)) (hs : HA D H (A cs) (eO 1 [.ref (A (cs + 1))])) (hw : HA D H (A (cs + 1)) (eL (g 2) 64 fs)) (hbH : b0 ≤ H.size) (hV : sV σ < 400) (u : Nat) (hu : u < sV σ) (u2 : Nat) (hu2 : u2 < sV σ) : Met l yX3_addVersion wsX3_addVersion ({ frames := 3, cells := 4, slots := 470, locals := 85 } : Room) (kPc D g [.ref (A 0), .ref (A (16 + 4 * u)), .ref (A (16 + 4 * u2)), .ref (A cs)] H) (kR (PGrow D g b0 H A σ dw (some u) (some u2) fs)) 4 470 (kF b0) := by
  refine Met.ofW (cc := cX3_addVersion) (maxL := 5) (ret := (some (.object "VersionMerge$Version"))) (by decide) rfl ?_
  intro p e s m args below meth c s₁ B hml hv
  obtain ⟨rfl, hH, hK⟩ := hv
  have hx := B.exec
  have hb := B.bytes
  have hr := B.returns
  have hts := atoms_spec (ws := wsX3_addVersion) B.pre
  have hown : s.vm.findClass RX3 = some m.cls := findClass_of_methodNamed B.named
  have hlocks := B.notSynchronized
  rw [hH]
  have hl := lv_entry ([.ref (A 0), .ref (A (16 + 4 * u)), .ref (A (16 + 4 * u2)), .ref (A cs)]) (n := 5) (Nat.le_of_ble_eq_true rfl)
  rw [lg_entry_eq]
  generalize (lg_sl ([.ref (A 0), .ref (A (16 + 4 * u)), .ref (A (16 + 4 * u2)), .ref (A cs)]) ++ List.replicate (5 - (lg_sl ([.ref (A 0), .ref (A (16 + 4 * u)), .ref (A (16 + 4 * u2)), .ref (A cs)])).length) Slot.unset).toArray = ls at hl ⊢
  have hl : lv_has ls 5 [(0, .ref (A 0)), (1, .ref (A (16 + 4 * u))), (2, .ref (A (16 + 4 * u2))), (3, .ref (A cs))] := hl
  have hVB := hC.wf
  have hV4 : sV σ ≤ 400 := hVB.2.1
  have hB4 : sB σ ≤ 40 := hVB.2.2.2.1
  refine lv_aload_n hx hb dX3_addVersion_0 rfl (lv_at hl 0 rfl) ?_
  refine k_get (ci := 3) (C := RX3) (T := TX3) (N := 7) (v := .int (nI (sV σ))) hx hb hts (by decide +kernel) hown hK hC.o rfl 2 (by decide) rfl (hts (.fieldLink RX3 146 RX3 "versionCount" "I") (by decide +kernel)) rfl dX3_addVersion_1 ?_
  refine n_if_lt (tgt := 17) hx hb dX3_addVersion_4 (by decide) (by omega) ?_
  refine lv_aload_n hx hb dX3_addVersion_7 rfl (lv_at hl 0 rfl) ?_
  refine k_get (ci := 3) (C := RX3) (T := TX3) (N := 7) (v := .int (nI (sV σ))) hx hb hts (by decide +kernel) hown hK hC.o rfl 2 (by decide) rfl (hts (.fieldLink RX3 146 RX3 "versionCount" "I") (by decide +kernel)) rfl dX3_addVersion_8 ?_
  refine lv_sipush (v := nI 400) hx hb dX3_addVersion_11 (by decide +kernel) ?_
  refine n_icmp_lt (tgt := 19) hx hb dX3_addVersion_14 (by decide) (by omega) (by omega) (fun c_649 => ?_) (fun c_649 => ?_)
  · skip
    have hlt_650 := hC.o.lt
    have hlt_651 := hs.lt
    have hlt_652 := (hC.ver hu).lt
    have hlt_653 := (hC.ver hu2).lt
    have hlt_654 := hw.lt
    have hlt_655 := hC.vr.lt
    have hlt_656 := (hC.an hu).lt
    have hlt_657 := (hC.an hu2).lt
    have hne01 : A 0 ≠ A 1 := hC.ne (cl0 (by omega)) (cl0 (by omega)) (by omega)
    have hgs := hC.ge hcs2
    have hF0 : Fr (fun x => x = A 0 ∨ x = A 1) H H := Fr.rf
    refine k_new (ci := 2) (C := RX2) (T := TX2) (N := 5) (fs := [.int (0), .null, .null, .null, .null]) hx hb hts (by decide +kernel) tyX2 tyX2_ok hown (hts (.classLink RX3 9 RX2) (by decide +kernel)) (hts (.instantiable RX2 5) (by decide +kernel)) (hts (.initialized RX2) (by decide +kernel)) hK rfl (fun j hj => by rcases (show j = 0 ∨ j = 1 ∨ j = 2 ∨ j = 3 ∨ j = 4 by omega) with rfl | rfl | rfl | rfl | rfl <;> rfl) (Nat.le_of_ble_eq_true rfl) (Nat.le_of_ble_eq_true rfl) dX3_addVersion_19 (fun q_658 H_659 ho_660 hA_661 => ?_)
    refine W.widen (k := 1) (n := 5) (Nat.le_of_ble_eq_true rfl) (Nat.le_of_ble_eq_true rfl) ?_
    have hqe_q_658 := hA_661.1
    have ho_662 := hC.o.add hA_661
    have ho_663 := hs.add hA_661
    have ho_664 := (hC.ver hu).add hA_661
    have ho_665 := (hC.ver hu2).add hA_661
    have hw_666 := hw.add hA_661
    have hw_667 := hC.vr.add hA_661
    have hw_668 := (hC.an hu).add hA_661
    have hw_669 := (hC.an hu2).add hA_661
    have hF_670 := hF0.add hA_661
    have hz_671 := hA_661.2.1
    refine lv_dup hx hb dX3_addVersion_22 rfl ?_
    refine lv_aload_n hx hb dX3_addVersion_23 rfl (lv_at hl 0 rfl) ?_
    refine k_get (ci := 3) (C := RX3) (T := TX3) (N := 7) (v := .int (nI (sV σ))) hx hb hts (by decide +kernel) hown hK ho_662 rfl 2 (by decide) rfl (hts (.fieldLink RX3 146 RX3 "versionCount" "I") (by decide +kernel)) rfl dX3_addVersion_24 ?_
    refine lv_aload_n hx hb dX3_addVersion_27 rfl (lv_at hl 1 rfl) ?_
    refine lv_aload_n hx hb dX3_addVersion_28 rfl (lv_at hl 2 rfl) ?_
    refine lv_aload_n hx hb dX3_addVersion_29 rfl (lv_at hl 3 rfl) ?_
    refine k_callU (va_runIN (As := [.int (nI (sV σ)), .ref (A (16 + 4 * u)), .ref (A (16 + 4 * u2)), .ref (A cs)]) (rest := [.ref q_658]) ⟨hx, hb, hml, hown, hts⟩ (c_X2_init_11 l D g b0 H_659 q_658 ho_660 (by omega) (by omega) (sV σ) hV (A cs) (A (cs + 1)) fs ho_663 hw_666 hgs (by omega) (by omega) (A (16 + 4 * u)) (A (19 + 4 * u)) _ _ _ _ (sA σ u) ho_664 hw_668 (by omega) (by omega) (A (16 + 4 * u2)) (A (19 + 4 * u2)) _ _ _ _ (sA σ u2) ho_665 hw_669 (by omega) (by omega)) ⟨va_cnB 4 hts gX3_addVersion_X2_init_n152 rfl rfl rfl (hK.2.1 (RX3, 152, yX2_init) (List.mem_of_getElem? (i := 1) rfl)) (hts (.initialized RX2) (by decide +kernel)) (by decide +kernel) ⟨Nat.le_of_ble_eq_true rfl, Nat.le_of_ble_eq_true rfl⟩, rfl, hts (.instanceMethod yX2_init) (by decide +kernel)⟩ ⟨kPc_blind, fun U hU hW => kPc_at hK hU hW⟩ rfl rfl hl.1 rfl (lv_room (Nat.le_of_ble_eq_true rfl)) dX3_addVersion_30 ⟨Nat.le_of_ble_eq_true rfl, Nat.le_of_ble_eq_true rfl⟩) LB.nil (fun Hi locsi hLBi hqi => ?_)
    refine W.widen (k := 4) (n := 470) (Nat.le_of_ble_eq_true rfl) (Nat.le_of_ble_eq_true rfl) ?_
    obtain ⟨q1, q2, q3, w1, an1, hq1s, h12, h23, k0, k1, k2, k3, hCi, hw1, han⟩ := hqi
    have ho_672 := ho_662.chg hCi (by omega)
    have hw_673 := hw_667.chg hCi (by omega)
    have hF_674 := hF_670.chg hCi (Or.inr (by omega))
    have hz_675 := hCi.1
    have hl1 := k1.lt
    have hl2 := k2.lt
    have hl3 := k3.lt
    refine lv_astore (lv' := [(4, .ref q_658), (0, .ref (A 0)), (1, .ref (A (16 + 4 * u))), (2, .ref (A (16 + 4 * u2))), (3, .ref (A cs))]) hx hb dX3_addVersion_33 hl (by decide) rfl (fun ls hl => ?_)
    refine lv_aload_n hx hb dX3_addVersion_35 rfl (lv_at hl 1 rfl) ?_
    refine k_get (ci := 3) (C := RX3) (T := TX3) (N := 7) (v := .ref (A 1)) hx hb hts (by decide +kernel) hown hK ho_672 rfl 0 (by decide) rfl (hts (.fieldLink RX3 11 RX3 "versionRow" "[LVersionMerge$Version;") (by decide +kernel)) rfl dX3_addVersion_36 ?_
    refine lv_aload_n hx hb dX3_addVersion_39 rfl (lv_at hl 1 rfl) ?_
    refine k_get (ci := 3) (C := RX3) (T := TX3) (N := 7) (v := .int (nI (sV σ))) hx hb hts (by decide +kernel) hown hK ho_672 rfl 2 (by decide) rfl (hts (.fieldLink RX3 146 RX3 "versionCount" "I") (by decide +kernel)) rfl dX3_addVersion_40 ?_
    refine lv_aload hx hb dX3_addVersion_43 (lv_at hl 0 rfl) ?_
    refine k_aast (r := (RX2, TX2, 5)) hx hb hK 5 rfl hw_673 k0 rfl hLBi (hC.ge (cl0 (by omega))) (sV σ) rfl (by omega) (by omega) dX3_addVersion_45 (fun H_676 locs_677 hw_678 hC_679 hLB_680 => ?_)
    have ho_681 := ho_672.chg hC_679 (by omega)
    have ho_682 := k0.chg hC_679 (by omega)
    have ho_683 := k1.chg hC_679 (by omega)
    have hw_684 := k2.chg hC_679 (by omega)
    have hw_685 := k3.chg hC_679 (by omega)
    have hF_686 := hF_674.chg hC_679 (Or.inl (Or.inr rfl))
    have hz_687 := hC_679.1
    refine lv_aload_n hx hb dX3_addVersion_46 rfl (lv_at hl 1 rfl) ?_
    refine lv_dup hx hb dX3_addVersion_47 rfl ?_
    refine k_get (ci := 3) (C := RX3) (T := TX3) (N := 7) (v := .int (nI (sV σ))) hx hb hts (by decide +kernel) hown hK ho_681 rfl 2 (by decide) rfl (hts (.fieldLink RX3 146 RX3 "versionCount" "I") (by decide +kernel)) rfl dX3_addVersion_48 ?_
    refine lv_iconst (v := nI 1) hx hb dX3_addVersion_51 (by decide +kernel) ?_
    refine lv_iadd hx hb dX3_addVersion_52 ?_
    refine lv_topi (nm_r (show (nI (sV σ)) + (nI 1) = nI (sV σ + 1) from nI_add _ _) ?_)
    refine k_put (ci := 3) (T := TX3) (N := 7) (v := .int (nI (sV σ + 1))) hx hb hts (by decide +kernel) tyX3 tyX3_ok nmX3 hown hK ho_681 hLB_680 (hC.ge (cl0 (by omega))) rfl 2 (by decide) rfl (hts (.fieldLink RX3 146 RX3 "versionCount" "I") (by decide +kernel)) rfl (ty := .int) (by decide +kernel) rfl rfl (Nat.le_of_ble_eq_true rfl) dX3_addVersion_53 (fun H_688 locs_689 ho_690 hC_691 hLB_692 => ?_)
    have ho_690 : HA D H_688 (A 0) (eO 3 [.ref (A 1), .ref (A 2), .int (nI (sV σ + 1)), .int (nI (sB σ)), .ref (A 3), .ref (A 5), .ref (A 7)]) := ho_690
    have ho_693 := ho_682.chg hC_691 (by omega)
    have ho_694 := ho_683.chg hC_691 (by omega)
    have hw_695 := hw_678.chg hC_691 (by omega)
    have hw_696 := hw_684.chg hC_691 (by omega)
    have hw_697 := hw_685.chg hC_691 (by omega)
    have hF_698 := hF_686.chg hC_691 (Or.inl (Or.inl rfl))
    have hz_699 := hC_691.1
    refine lv_aload hx hb dX3_addVersion_56 (lv_at hl 0 rfl) ?_
    have hAn : AnOK σ (sV σ) (some u) (some u2) an1 := fun j hj => by rw [han j hj]; simp [anO]
    have hfin := hC.addV (f := (some u)) (s := (some u2)) (w := w1) (an := an1) (q0 := q_658) (q1 := q1) (q2 := q2) (q3 := q3) hV (fun p hp => by cases hp; exact hu) (fun p hp => by cases hp; exact hu2) hAn hbH (by omega) (by omega) h12 h23 hF_698.1 (fun q hq g0 g1 => hF_698.2 q hq (fun z => z.elim g0 g1)) ho_693 ho_694 hw_696 hw_697 ho_690 hw_695
    exact r_aR hx hb hr hLB_692 (Nat.le_refl _) (Nat.le_refl _) ⟨q1, q2, q3, w1, an1, hfin.1, hfin.2, hw1, hAn⟩ dX3_addVersion_58 hlocks
  · skip
    exact absurd hV (by omega)
set_option maxHeartbeats 4000000 in
set_option maxRecDepth 100000 in
theorem c_X3_addBranch_0 (l : Launch) (D : va_G) (g : Nat → ClassId) (b0 : Nat) (H : Heap) (A : Nat → Nat) (σ : SG) (dw : Nat → Int64) (hC : CR D g b0 A σ dw H) : Met l yX3_addBranch wsX3_addBranch ({ frames := 0, cells := 0, slots := 0, locals := 0 } : Room) (kPc D g [.ref (A 0), .null] H) (kX (.int (-4)) H) 0 0 kN := by
  refine Met.ofW (cc := cX3_addBranch) (maxL := 3) (ret := (some .int)) (by decide) rfl ?_
  intro p e s m args below meth c s₁ B hml hv
  obtain ⟨rfl, hH, hK⟩ := hv
  have hx := B.exec
  have hb := B.bytes
  have hr := B.returns
  have hts := atoms_spec (ws := wsX3_addBranch) B.pre
  have hown : s.vm.findClass RX3 = some m.cls := findClass_of_methodNamed B.named
  have hlocks := B.notSynchronized
  rw [hH]
  have hl := lv_entry ([.ref (A 0), .null]) (n := 3) (Nat.le_of_ble_eq_true rfl)
  rw [lg_entry_eq]
  generalize (lg_sl ([.ref (A 0), .null]) ++ List.replicate (3 - (lg_sl ([.ref (A 0), .null])).length) Slot.unset).toArray = ls at hl ⊢
  have hl : lv_has ls 3 [(0, .ref (A 0)), (1, .null)] := hl
  have hVB := hC.wf
  have hV4 : sV σ ≤ 400 := hVB.2.1
  have hB4 : sB σ ≤ 40 := hVB.2.2.2.1
  refine lv_aload_nN hx hb dX3_addBranch_0 rfl (lv_at hl 1 rfl) ?_
  refine lv_ifnullN (tgt := 20) hx hb dX3_addBranch_1 (by decide) ?_
  refine lv_bipush (v := (-4)) hx hb dX3_addBranch_20 (by decide +kernel) ?_
  exact r_iX hx hb hr (rfl) dX3_addBranch_22 hlocks
set_option maxHeartbeats 4000000 in
set_option maxRecDepth 100000 in
theorem c_X3_addBranch_full (l : Launch) (D : va_G) (g : Nat → ClassId) (b0 : Nat) (H : Heap) (A : Nat → Nat) (σ : SG) (dw : Nat → Int64) (hC : CR D g b0 A σ dw H) (hB : ¬ sB σ < 40) (v : Nat) : Met l yX3_addBranch wsX3_addBranch ({ frames := 0, cells := 0, slots := 0, locals := 0 } : Room) (kPc D g [.ref (A 0), .ref (A (16 + 4 * v))] H) (kX (.int (-4)) H) 0 0 kN := by
  refine Met.ofW (cc := cX3_addBranch) (maxL := 3) (ret := (some .int)) (by decide) rfl ?_
  intro p e s m args below meth c s₁ B hml hv
  obtain ⟨rfl, hH, hK⟩ := hv
  have hx := B.exec
  have hb := B.bytes
  have hr := B.returns
  have hts := atoms_spec (ws := wsX3_addBranch) B.pre
  have hown : s.vm.findClass RX3 = some m.cls := findClass_of_methodNamed B.named
  have hlocks := B.notSynchronized
  rw [hH]
  have hl := lv_entry ([.ref (A 0), .ref (A (16 + 4 * v))]) (n := 3) (Nat.le_of_ble_eq_true rfl)
  rw [lg_entry_eq]
  generalize (lg_sl ([.ref (A 0), .ref (A (16 + 4 * v))]) ++ List.replicate (3 - (lg_sl ([.ref (A 0), .ref (A (16 + 4 * v))])).length) Slot.unset).toArray = ls at hl ⊢
  have hl : lv_has ls 3 [(0, .ref (A 0)), (1, .ref (A (16 + 4 * v)))] := hl
  have hVB := hC.wf
  have hV4 : sV σ ≤ 400 := hVB.2.1
  have hB4 : sB σ ≤ 40 := hVB.2.2.2.1
  refine lv_aload_n hx hb dX3_addBranch_0 rfl (lv_at hl 1 rfl) ?_
  refine lv_ifnull hx hb dX3_addBranch_1 ?_
  refine lv_aload_n hx hb dX3_addBranch_4 rfl (lv_at hl 0 rfl) ?_
  refine k_get (ci := 3) (C := RX3) (T := TX3) (N := 7) (v := .int (nI (sB σ))) hx hb hts (by decide +kernel) hown hK hC.o rfl 3 (by decide) rfl (hts (.fieldLink RX3 46 RX3 "branchCount" "I") (by decide +kernel)) rfl dX3_addBranch_5 ?_
  refine n_if_lt (tgt := 20) hx hb dX3_addBranch_8 (by decide) (by omega) ?_
  refine lv_aload_n hx hb dX3_addBranch_11 rfl (lv_at hl 0 rfl) ?_
  refine k_get (ci := 3) (C := RX3) (T := TX3) (N := 7) (v := .int (nI (sB σ))) hx hb hts (by decide +kernel) hown hK hC.o rfl 3 (by decide) rfl (hts (.fieldLink RX3 46 RX3 "branchCount" "I") (by decide +kernel)) rfl dX3_addBranch_12 ?_
  refine lv_bipush (v := nI 40) hx hb dX3_addBranch_15 (by decide +kernel) ?_
  refine n_icmp_lt (tgt := 23) hx hb dX3_addBranch_17 (by decide) (by omega) (by omega) (fun c_701 => ?_) (fun c_701 => ?_)
  · skip
    exact absurd c_701 hB
  · skip
    refine lv_bipush (v := (-4)) hx hb dX3_addBranch_20 (by decide +kernel) ?_
    exact r_iX hx hb hr (rfl) dX3_addBranch_22 hlocks
set_option maxHeartbeats 4000000 in
set_option maxRecDepth 100000 in
/-- addBranch: there is room -/
theorem c_X3_addBranch (l : Launch) (D : va_G) (g : Nat → ClassId) (b0 : Nat) (H : Heap) (A : Nat → Nat) (σ : SG) (dw : Nat → Int64) (hC : CR D g b0 A σ dw H) (hbH : b0 ≤ H.size) (hB : sB σ < 40) (v : Nat) (hv : v < sV σ) : Met l yX3_addBranch wsX3_addBranch ({ frames := 2, cells := 1, slots := 1, locals := 33 } : Room) (kPc D g [.ref (A 0), .ref (A (16 + 4 * v))] H) (kI (fun r H1 => r = nI (sB σ) ∧ ∃ A1, CR D g b0 A1 (gBr σ v) dw H1 ∧ CFr H A σ H1 A1 (gBr σ v))) 1 1 (kF b0) := by
  refine Met.ofW (cc := cX3_addBranch) (maxL := 3) (ret := (some .int)) (by decide) rfl ?_
  intro p e s m args below meth c s₁ B hml hv
  obtain ⟨rfl, hH, hK⟩ := hv
  have hx := B.exec
  have hb := B.bytes
  have hr := B.returns
  have hts := atoms_spec (ws := wsX3_addBranch) B.pre
  have hown : s.vm.findClass RX3 = some m.cls := findClass_of_methodNamed B.named
  have hlocks := B.notSynchronized
  rw [hH]
  have hl := lv_entry ([.ref (A 0), .ref (A (16 + 4 * v))]) (n := 3) (Nat.le_of_ble_eq_true rfl)
  rw [lg_entry_eq]
  generalize (lg_sl ([.ref (A 0), .ref (A (16 + 4 * v))]) ++ List.replicate (3 - (lg_sl ([.ref (A 0), .ref (A (16 + 4 * v))])).length) Slot.unset).toArray = ls at hl ⊢
  have hl : lv_has ls 3 [(0, .ref (A 0)), (1, .ref (A (16 + 4 * v)))] := hl
  have hVB := hC.wf
  have hV4 : sV σ ≤ 400 := hVB.2.1
  have hB4 : sB σ ≤ 40 := hVB.2.2.2.1
  refine lv_aload_n hx hb dX3_addBranch_0 rfl (lv_at hl 1 rfl) ?_
  refine lv_ifnull hx hb dX3_addBranch_1 ?_
  refine lv_aload_n hx hb dX3_addBranch_4 rfl (lv_at hl 0 rfl) ?_
  refine k_get (ci := 3) (C := RX3) (T := TX3) (N := 7) (v := .int (nI (sB σ))) hx hb hts (by decide +kernel) hown hK hC.o rfl 3 (by decide) rfl (hts (.fieldLink RX3 46 RX3 "branchCount" "I") (by decide +kernel)) rfl dX3_addBranch_5 ?_
  refine n_if_lt (tgt := 20) hx hb dX3_addBranch_8 (by decide) (by omega) ?_
  refine lv_aload_n hx hb dX3_addBranch_11 rfl (lv_at hl 0 rfl) ?_
  refine k_get (ci := 3) (C := RX3) (T := TX3) (N := 7) (v := .int (nI (sB σ))) hx hb hts (by decide +kernel) hown hK hC.o rfl 3 (by decide) rfl (hts (.fieldLink RX3 46 RX3 "branchCount" "I") (by decide +kernel)) rfl dX3_addBranch_12 ?_
  refine lv_bipush (v := nI 40) hx hb dX3_addBranch_15 (by decide +kernel) ?_
  refine n_icmp_lt (tgt := 23) hx hb dX3_addBranch_17 (by decide) (by omega) (by omega) (fun c_703 => ?_) (fun c_703 => ?_)
  · skip
    refine lv_aload_n hx hb dX3_addBranch_23 rfl (lv_at hl 0 rfl) ?_
    refine k_get (ci := 3) (C := RX3) (T := TX3) (N := 7) (v := .int (nI (sB σ))) hx hb hts (by decide +kernel) hown hK hC.o rfl 3 (by decide) rfl (hts (.fieldLink RX3 46 RX3 "branchCount" "I") (by decide +kernel)) rfl dX3_addBranch_24 ?_
    refine lv_istore_n (lv' := [(2, .int (nI (sB σ))), (0, .ref (A 0)), (1, .ref (A (16 + 4 * v)))]) hx hb dX3_addBranch_27 rfl hl (by decide) rfl (fun ls hl => ?_)
    refine lv_aload_n hx hb dX3_addBranch_28 rfl (lv_at hl 1 rfl) ?_
    refine k_get (ci := 3) (C := RX3) (T := TX3) (N := 7) (v := .ref (A 2)) hx hb hts (by decide +kernel) hown hK hC.o rfl 1 (by decide) rfl (hts (.fieldLink RX3 17 RX3 "branchRow" "[LVersionMerge$Branch;") (by decide +kernel)) rfl dX3_addBranch_29 ?_
    refine lv_iload_n hx hb dX3_addBranch_32 rfl (lv_at hl 0 rfl) ?_
    have hlt_704 := hC.o.lt
    have hlt_705 := (hC.ver hv).lt
    have hlt_706 := hC.br.lt
    have hne02 : A 0 ≠ A 2 := hC.ne (cl0 (by omega)) (cl0 (by omega)) (by omega)
    have hF0 : Fr (fun x => x = A 0 ∨ x = A 2) H H := Fr.rf
    refine k_new (ci := 0) (C := RX0) (T := TX0) (N := 1) (fs := [.null]) hx hb hts (by decide +kernel) tyX0 tyX0_ok hown (hts (.classLink RX3 15 RX0) (by decide +kernel)) (hts (.instantiable RX0 1) (by decide +kernel)) (hts (.initialized RX0) (by decide +kernel)) hK rfl (fun j hj => by rw [show j = 0 by omega]; rfl) (Nat.le_of_ble_eq_true rfl) (Nat.le_of_ble_eq_true rfl) dX3_addBranch_33 (fun q_707 H_708 ho_709 hA_710 => ?_)
    refine W.widen (k := 1) (n := 1) (Nat.le_of_ble_eq_true rfl) (Nat.le_of_ble_eq_true rfl) ?_
    have hqe_q_707 := hA_710.1
    have ho_711 := hC.o.add hA_710
    have ho_712 := (hC.ver hv).add hA_710
    have hw_713 := hC.br.add hA_710
    have hF_714 := hF0.add hA_710
    have hz_715 := hA_710.2.1
    refine lv_dup hx hb dX3_addBranch_36 rfl ?_
    refine lv_aload_n hx hb dX3_addBranch_37 rfl (lv_at hl 2 rfl) ?_
    refine k_callU (va_runIN (As := [.ref (A (16 + 4 * v))]) (rest := [.ref q_707, .int (nI (sB σ)), .ref (A 2)]) ⟨hx, hb, hml, hown, hts⟩ (c_X0_init l D g b0 H_708 q_707 ho_709 (by omega) (A (16 + 4 * v))) ⟨va_cnB 1 hts gX3_addBranch_X0_init_n155 rfl rfl rfl (hK.2.1 (RX3, 155, yX0_init) (List.mem_of_getElem? (i := 4) rfl)) (hts (.initialized RX0) (by decide +kernel)) (by decide +kernel) ⟨Nat.le_of_ble_eq_true rfl, Nat.le_of_ble_eq_true rfl⟩, rfl, hts (.instanceMethod yX0_init) (by decide +kernel)⟩ ⟨kPc_blind, fun U hU hW => kPc_at hK hU hW⟩ rfl rfl hl.1 rfl (lv_room (Nat.le_of_ble_eq_true rfl)) dX3_addBranch_38 ⟨Nat.le_of_ble_eq_true rfl, Nat.le_of_ble_eq_true rfl⟩) LB.nil (fun Hi locsi hLBi hqi => ?_)
    obtain ⟨k0, hCi⟩ := hqi
    have ho_716 := ho_711.chg hCi (by omega)
    have hw_717 := hw_713.chg hCi (by omega)
    have hF_718 := hF_714.chg hCi (Or.inr (by omega))
    have hz_719 := hCi.1
    refine k_aast (r := (RX0, TX0, 1)) hx hb hK 4 rfl hw_717 k0 rfl hLBi (hC.ge (cl0 (by omega))) (sB σ) rfl (by omega) (by omega) dX3_addBranch_41 (fun H_720 locs_721 hw_722 hC_723 hLB_724 => ?_)
    have ho_725 := ho_716.chg hC_723 (by omega)
    have ho_726 := k0.chg hC_723 (by omega)
    have hF_727 := hF_718.chg hC_723 (Or.inl (Or.inr rfl))
    have hz_728 := hC_723.1
    refine lv_aload_n hx hb dX3_addBranch_42 rfl (lv_at hl 1 rfl) ?_
    refine lv_dup hx hb dX3_addBranch_43 rfl ?_
    refine k_get (ci := 3) (C := RX3) (T := TX3) (N := 7) (v := .int (nI (sB σ))) hx hb hts (by decide +kernel) hown hK ho_725 rfl 3 (by decide) rfl (hts (.fieldLink RX3 46 RX3 "branchCount" "I") (by decide +kernel)) rfl dX3_addBranch_44 ?_
    refine lv_iconst (v := nI 1) hx hb dX3_addBranch_47 (by decide +kernel) ?_
    refine lv_iadd hx hb dX3_addBranch_48 ?_
    refine lv_topi (nm_r (show (nI (sB σ)) + (nI 1) = nI (sB σ + 1) from nI_add _ _) ?_)
    refine k_put (ci := 3) (T := TX3) (N := 7) (v := .int (nI (sB σ + 1))) hx hb hts (by decide +kernel) tyX3 tyX3_ok nmX3 hown hK ho_725 hLB_724 (hC.ge (cl0 (by omega))) rfl 3 (by decide) rfl (hts (.fieldLink RX3 46 RX3 "branchCount" "I") (by decide +kernel)) rfl (ty := .int) (by decide +kernel) rfl rfl (Nat.le_of_ble_eq_true rfl) dX3_addBranch_49 (fun H_729 locs_730 ho_731 hC_732 hLB_733 => ?_)
    have ho_731 : HA D H_729 (A 0) (eO 3 [.ref (A 1), .ref (A 2), .int (nI (sV σ)), .int (nI (sB σ + 1)), .ref (A 3), .ref (A 5), .ref (A 7)]) := ho_731
    have ho_734 := ho_726.chg hC_732 (by omega)
    have hw_735 := hw_722.chg hC_732 (by omega)
    have hF_736 := hF_727.chg hC_732 (Or.inl (Or.inl rfl))
    have hz_737 := hC_732.1
    refine lv_iload_n hx hb dX3_addBranch_52 rfl (lv_at hl 0 rfl) ?_
    have hfin := hC.addB (v := v) (q := q_707) hB hv hbH (by omega) hF_736.1 (fun q hq g0 g1 => hF_736.2 q hq (fun z => z.elim g0 g1)) ho_734 ho_731 hw_735
    exact r_iI hx hb hr hLB_733 (Nat.le_refl _) (Nat.le_refl _) ⟨rfl, _, hfin.1, hfin.2⟩ dX3_addBranch_53 hlocks
  · skip
    exact absurd hB (by omega)
set_option maxHeartbeats 4000000 in
set_option maxRecDepth 100000 in
theorem c_X3_advance_full_0 (l : Launch) (D : va_G) (g : Nat → ClassId) (b0 : Nat) (H : Heap) (A : Nat → Nat) (σ : SG) (dw : Nat → Int64) (hC : CR D g b0 A σ dw H) (hV : ¬ sV σ < 400) (b : Nat) (hb4 : b < sB σ) (cs : Nat) : Met l yX3_advance wsX3_advance ({ frames := 1, cells := 0, slots := 0, locals := 24 } : Room) (kPc D g [.ref (A 0), .ref (A (2000 + b)), .null, .ref (A cs)] H) (kX (.int (-4)) H) 0 0 kN := by
  refine Met.ofW (cc := cX3_advance) (maxL := 5) (ret := (some .int)) (by decide) rfl ?_
  intro p e s m args below meth c s₁ B hml hv
  obtain ⟨rfl, hH, hK⟩ := hv
  have hx := B.exec
  have hb := B.bytes
  have hr := B.returns
  have hts := atoms_spec (ws := wsX3_advance) B.pre
  have hown : s.vm.findClass RX3 = some m.cls := findClass_of_methodNamed B.named
  have hlocks := B.notSynchronized
  rw [hH]
  have hl := lv_entry ([.ref (A 0), .ref (A (2000 + b)), .null, .ref (A cs)]) (n := 5) (Nat.le_of_ble_eq_true rfl)
  rw [lg_entry_eq]
  generalize (lg_sl ([.ref (A 0), .ref (A (2000 + b)), .null, .ref (A cs)]) ++ List.replicate (5 - (lg_sl ([.ref (A 0), .ref (A (2000 + b)), .null, .ref (A cs)])).length) Slot.unset).toArray = ls at hl ⊢
  have hl : lv_has ls 5 [(0, .ref (A 0)), (1, .ref (A (2000 + b))), (2, .null), (3, .ref (A cs))] := hl
  have hVB := hC.wf
  have hV4 : sV σ ≤ 400 := hVB.2.1
  have hB4 : sB σ ≤ 40 := hVB.2.2.2.1
  refine lv_aload_n hx hb dX3_advance_0 rfl (lv_at hl 0 rfl) ?_
  refine lv_aload_n hx hb dX3_advance_1 rfl (lv_at hl 1 rfl) ?_
  refine k_getN (ci := 0) (C := RX0) (T := TX0) (N := 1) (v := .ref (A (16 + 4 * (sH σ b)))) hx hb hts (by decide +kernel) hown hK (hC.ba hb4) rfl 0 (by decide) rfl (List.mem_of_getElem? (i := 4) rfl) rfl dX3_advance_2 ?_
  refine lv_aload_nN hx hb dX3_advance_5 rfl (lv_at hl 2 rfl) ?_
  refine lv_aload_n hx hb dX3_advance_6 rfl (lv_at hl 3 rfl) ?_
  refine k_callX (va_runV (As := [.ref (A (16 + 4 * (sH σ b))), .null, .ref (A cs)]) (rest := []) ⟨hx, hb, hml, hown, hts⟩ (c_X3_addVersion_full_10 l D g b0 H A σ dw hC hV (sH σ b) cs) (cwV 3 hts gX3_advance_X3_addVersion rfl rfl rfl (by decide +kernel) ⟨Nat.le_of_ble_eq_true rfl, Nat.le_of_ble_eq_true rfl⟩) ⟨kPc_blind, k_recv hK hC.o rfl, fun U hU hW => kPc_at hK hU hW⟩ rfl rfl hl.1 rfl (lv_room (Nat.le_of_ble_eq_true rfl)) dX3_advance_7 ⟨Nat.le_of_ble_eq_true rfl, Nat.le_of_ble_eq_true rfl⟩) ?_
  refine lv_astoreN (lv' := [(4, .null), (0, .ref (A 0)), (1, .ref (A (2000 + b))), (2, .null), (3, .ref (A cs))]) hx hb dX3_advance_10 hl (by decide) rfl (fun ls hl => ?_)
  refine lv_aloadN hx hb dX3_advance_12 (lv_at hl 0 rfl) ?_
  refine lv_ifnonnullN hx hb dX3_advance_14 ?_
  refine lv_bipush (v := (-4)) hx hb dX3_advance_17 (by decide +kernel) ?_
  exact r_iX hx hb hr (rfl) dX3_advance_19 hlocks
set_option maxHeartbeats 4000000 in
set_option maxRecDepth 100000 in
/-- advance: there is room -/
theorem c_X3_advance_0 (l : Launch) (D : va_G) (g : Nat → ClassId) (b0 : Nat) (H : Heap) (A : Nat → Nat) (σ : SG) (dw : Nat → Int64) (hC : CR D g b0 A σ dw H) (cs : Nat) (fs : Nat → Int64) (hcs1 : cLive σ cs) (hcs2 : cLive σ (cs + 1)) (hs : HA D H (A cs) (eO 1 [.ref (A (cs + 1))])) (hw : HA D H (A (cs + 1)) (eL (g 2) 64 fs)) (hbH : b0 ≤ H.size) (hV : sV σ < 400) (b : Nat) (hb4 : b < sB σ) : Met l yX3_advance wsX3_advance ({ frames := 4, cells := 4, slots := 470, locals := 109 } : Room) (kPc D g [.ref (A 0), .ref (A (2000 + b)), .null, .ref (A cs)] H) (kI (fun r H1 => r = nI (sV σ) ∧ PAdv D g b0 H A σ dw b none fs H1)) 4 470 (kF b0) := by
  refine Met.ofW (cc := cX3_advance) (maxL := 5) (ret := (some .int)) (by decide) rfl ?_
  intro p e s m args below meth c s₁ B hml hv
  obtain ⟨rfl, hH, hK⟩ := hv
  have hx := B.exec
  have hb := B.bytes
  have hr := B.returns
  have hts := atoms_spec (ws := wsX3_advance) B.pre
  have hown : s.vm.findClass RX3 = some m.cls := findClass_of_methodNamed B.named
  have hlocks := B.notSynchronized
  rw [hH]
  have hl := lv_entry ([.ref (A 0), .ref (A (2000 + b)), .null, .ref (A cs)]) (n := 5) (Nat.le_of_ble_eq_true rfl)
  rw [lg_entry_eq]
  generalize (lg_sl ([.ref (A 0), .ref (A (2000 + b)), .null, .ref (A cs)]) ++ List.replicate (5 - (lg_sl ([.ref (A 0), .ref (A (2000 + b)), .null, .ref (A cs)])).length) Slot.unset).toArray = ls at hl ⊢
  have hl : lv_has ls 5 [(0, .ref (A 0)), (1, .ref (A (2000 + b))), (2, .null), (3, .ref (A cs))] := hl
  have hVB := hC.wf
  have hV4 : sV σ ≤ 400 := hVB.2.1
  have hB4 : sB σ ≤ 40 := hVB.2.2.2.1
  have hhd := hVB.2.2.2.2.1 b hb4
  refine lv_aload_n hx hb dX3_advance_0 rfl (lv_at hl 0 rfl) ?_
  refine lv_aload_n hx hb dX3_advance_1 rfl (lv_at hl 1 rfl) ?_
  refine k_getN (ci := 0) (C := RX0) (T := TX0) (N := 1) (v := .ref (A (16 + 4 * (sH σ b)))) hx hb hts (by decide +kernel) hown hK (hC.ba hb4) rfl 0 (by decide) rfl (List.mem_of_getElem? (i := 4) rfl) rfl dX3_advance_2 ?_
  refine lv_aload_nN hx hb dX3_advance_5 rfl (lv_at hl 2 rfl) ?_
  refine lv_aload_n hx hb dX3_advance_6 rfl (lv_at hl 3 rfl) ?_
  refine k_callR (va_runV (As := [.ref (A (16 + 4 * (sH σ b))), .null, .ref (A cs)]) (rest := []) ⟨hx, hb, hml, hown, hts⟩ (c_X3_addVersion_10 l D g b0 H A σ dw hC cs fs hcs1 hcs2 hs hw hbH hV (sH σ b) hhd) (cwV 3 hts gX3_advance_X3_addVersion rfl rfl rfl (by decide +kernel) ⟨Nat.le_of_ble_eq_true rfl, Nat.le_of_ble_eq_true rfl⟩) ⟨kPc_blind, k_recv hK hC.o rfl, fun U hU hW => kPc_at hK hU hW⟩ rfl rfl hl.1 rfl (lv_room (Nat.le_of_ble_eq_true rfl)) dX3_advance_7 ⟨Nat.le_of_ble_eq_true rfl, Nat.le_of_ble_eq_true rfl⟩) LB.nil (fun a H1 locs1 hLB1 hq1 => ?_)
  refine W.widen (k := 4) (n := 470) (Nat.le_of_ble_eq_true rfl) (Nat.le_of_ble_eq_true rfl) ?_
  obtain ⟨q1, q2, q3, w1, an1, hC1, hF1, hw1, han⟩ := hq1
  have hba := hC1.ba (b := b) hb4
  have eb : AV A (sV σ) a q1 q2 q3 (2000 + b) = A (2000 + b) := AVo A (sV σ) a q1 q2 q3 (Or.inr (by omega))
  rw [eb] at hba
  refine lv_astore (lv' := [(4, .ref a), (0, .ref (A 0)), (1, .ref (A (2000 + b))), (2, .null), (3, .ref (A cs))]) hx hb dX3_advance_10 hl (by decide) rfl (fun ls hl => ?_)
  refine lv_aload hx hb dX3_advance_12 (lv_at hl 0 rfl) ?_
  refine lv_ifnonnull (tgt := 20) hx hb dX3_advance_14 (by decide) ?_
  refine lv_aload_n hx hb dX3_advance_20 rfl (lv_at hl 2 rfl) ?_
  refine lv_aload hx hb dX3_advance_21 (lv_at hl 0 rfl) ?_
  refine k_putN (ci := 0) (C := RX0) (T := TX0) (N := 1) (v := .ref a) hx hb hts (by decide +kernel) tyX0 tyX0_ok nmX0 hown hK hba hLB1 (hC.ge (clB hb4)) rfl 0 (by decide) rfl (List.mem_of_getElem? (i := 4) rfl) rfl (ty := .object "VersionMerge$Version") (by decide +kernel) rfl rfl (Nat.le_of_ble_eq_true rfl) dX3_advance_23 (fun H_738 locs_739 ho_740 hC_741 hLB_742 => ?_)
  have hC2 := hC1.head (b := b) (v := sV σ) hb4 (Nat.lt_succ_self _) (by rw [eb, AV0]; exact ho_740) (by rw [eb]; exact hC_741)
  have hF2 := hF1.tr (CFr.chg (σ1 := gStep σ b none w1 an1) (clB (σ := gGrow σ (some (sH σ b)) none w1 an1) (b := b) hb4) (by rw [eb]; exact hC_741) (fun c hc => hc))
  have hvn := hC2.ver (k := sV σ) (Nat.lt_succ_self _)
  rw [AV0] at hvn
  refine lv_aload hx hb dX3_advance_26 (lv_at hl 0 rfl) ?_
  refine k_getN (ci := 2) (C := RX2) (T := TX2) (N := 5) (v := .int (nI (sV σ))) hx hb hts (by decide +kernel) hown hK hvn rfl 0 (by decide) rfl (List.mem_of_getElem? (i := 0) rfl) rfl dX3_advance_28 ?_
  exact r_iI hx hb hr hLB_742 (Nat.le_refl _) (Nat.le_refl _) ⟨rfl, _, w1, an1, hC2, hF2, hw1, han⟩ dX3_advance_31 hlocks
set_option maxHeartbeats 4000000 in
set_option maxRecDepth 100000 in
theorem c_X3_advance_full_1 (l : Launch) (D : va_G) (g : Nat → ClassId) (b0 : Nat) (H : Heap) (A : Nat → Nat) (σ : SG) (dw : Nat → Int64) (hC : CR D g b0 A σ dw H) (hV : ¬ sV σ < 400) (b : Nat) (hb4 : b < sB σ) (u2 : Nat) (cs : Nat) : Met l yX3_advance wsX3_advance ({ frames := 1, cells := 0, slots := 0, locals := 24 } : Room) (kPc D g [.ref (A 0), .ref (A (2000 + b)), .ref (A (16 + 4 * u2)), .ref (A cs)] H) (kX (.int (-4)) H) 0 0 kN := by
  refine Met.ofW (cc := cX3_advance) (maxL := 5) (ret := (some .int)) (by decide) rfl ?_
  intro p e s m args below meth c s₁ B hml hv
  obtain ⟨rfl, hH, hK⟩ := hv
  have hx := B.exec
  have hb := B.bytes
  have hr := B.returns
  have hts := atoms_spec (ws := wsX3_advance) B.pre
  have hown : s.vm.findClass RX3 = some m.cls := findClass_of_methodNamed B.named
  have hlocks := B.notSynchronized
  rw [hH]
  have hl := lv_entry ([.ref (A 0), .ref (A (2000 + b)), .ref (A (16 + 4 * u2)), .ref (A cs)]) (n := 5) (Nat.le_of_ble_eq_true rfl)
  rw [lg_entry_eq]
  generalize (lg_sl ([.ref (A 0), .ref (A (2000 + b)), .ref (A (16 + 4 * u2)), .ref (A cs)]) ++ List.replicate (5 - (lg_sl ([.ref (A 0), .ref (A (2000 + b)), .ref (A (16 + 4 * u2)), .ref (A cs)])).length) Slot.unset).toArray = ls at hl ⊢
  have hl : lv_has ls 5 [(0, .ref (A 0)), (1, .ref (A (2000 + b))), (2, .ref (A (16 + 4 * u2))), (3, .ref (A cs))] := hl
  have hVB := hC.wf
  have hV4 : sV σ ≤ 400 := hVB.2.1
  have hB4 : sB σ ≤ 40 := hVB.2.2.2.1
  refine lv_aload_n hx hb dX3_advance_0 rfl (lv_at hl 0 rfl) ?_
  refine lv_aload_n hx hb dX3_advance_1 rfl (lv_at hl 1 rfl) ?_
  refine k_getN (ci := 0) (C := RX0) (T := TX0) (N := 1) (v := .ref (A (16 + 4 * (sH σ b)))) hx hb hts (by decide +kernel) hown hK (hC.ba hb4) rfl 0 (by decide) rfl (List.mem_of_getElem? (i := 4) rfl) rfl dX3_advance_2 ?_
  refine lv_aload_n hx hb dX3_advance_5 rfl (lv_at hl 2 rfl) ?_
  refine lv_aload_n hx hb dX3_advance_6 rfl (lv_at hl 3 rfl) ?_
  refine k_callX (va_runV (As := [.ref (A (16 + 4 * (sH σ b))), .ref (A (16 + 4 * u2)), .ref (A cs)]) (rest := []) ⟨hx, hb, hml, hown, hts⟩ (c_X3_addVersion_full_11 l D g b0 H A σ dw hC hV (sH σ b) u2 cs) (cwV 3 hts gX3_advance_X3_addVersion rfl rfl rfl (by decide +kernel) ⟨Nat.le_of_ble_eq_true rfl, Nat.le_of_ble_eq_true rfl⟩) ⟨kPc_blind, k_recv hK hC.o rfl, fun U hU hW => kPc_at hK hU hW⟩ rfl rfl hl.1 rfl (lv_room (Nat.le_of_ble_eq_true rfl)) dX3_advance_7 ⟨Nat.le_of_ble_eq_true rfl, Nat.le_of_ble_eq_true rfl⟩) ?_
  refine lv_astoreN (lv' := [(4, .null), (0, .ref (A 0)), (1, .ref (A (2000 + b))), (2, .ref (A (16 + 4 * u2))), (3, .ref (A cs))]) hx hb dX3_advance_10 hl (by decide) rfl (fun ls hl => ?_)
  refine lv_aloadN hx hb dX3_advance_12 (lv_at hl 0 rfl) ?_
  refine lv_ifnonnullN hx hb dX3_advance_14 ?_
  refine lv_bipush (v := (-4)) hx hb dX3_advance_17 (by decide +kernel) ?_
  exact r_iX hx hb hr (rfl) dX3_advance_19 hlocks
set_option maxHeartbeats 4000000 in
set_option maxRecDepth 100000 in
/-- advance: there is room -/
theorem c_X3_advance_1 (l : Launch) (D : va_G) (g : Nat → ClassId) (b0 : Nat) (H : Heap) (A : Nat → Nat) (σ : SG) (dw : Nat → Int64) (hC : CR D g b0 A σ dw H) (cs : Nat) (fs : Nat → Int64) (hcs1 : cLive σ cs) (hcs2 : cLive σ (cs + 1)) (hs : HA D H (A cs) (eO 1 [.ref (A (cs + 1))])) (hw : HA D H (A (cs + 1)) (eL (g 2) 64 fs)) (hbH : b0 ≤ H.size) (hV : sV σ < 400) (b : Nat) (hb4 : b < sB σ) (u2 : Nat) (hu2 : u2 < sV σ) : Met l yX3_advance wsX3_advance ({ frames := 4, cells := 4, slots := 470, locals := 109 } : Room) (kPc D g [.ref (A 0), .ref (A (2000 + b)), .ref (A (16 + 4 * u2)), .ref (A cs)] H) (kI (fun r H1 => r = nI (sV σ) ∧ PAdv D g b0 H A σ dw b (some u2) fs H1)) 4 470 (kF b0) := by
  refine Met.ofW (cc := cX3_advance) (maxL := 5) (ret := (some .int)) (by decide) rfl ?_
  intro p e s m args below meth c s₁ B hml hv
  obtain ⟨rfl, hH, hK⟩ := hv
  have hx := B.exec
  have hb := B.bytes
  have hr := B.returns
  have hts := atoms_spec (ws := wsX3_advance) B.pre
  have hown : s.vm.findClass RX3 = some m.cls := findClass_of_methodNamed B.named
  have hlocks := B.notSynchronized
  rw [hH]
  have hl := lv_entry ([.ref (A 0), .ref (A (2000 + b)), .ref (A (16 + 4 * u2)), .ref (A cs)]) (n := 5) (Nat.le_of_ble_eq_true rfl)
  rw [lg_entry_eq]
  generalize (lg_sl ([.ref (A 0), .ref (A (2000 + b)), .ref (A (16 + 4 * u2)), .ref (A cs)]) ++ List.replicate (5 - (lg_sl ([.ref (A 0), .ref (A (2000 + b)), .ref (A (16 + 4 * u2)), .ref (A cs)])).length) Slot.unset).toArray = ls at hl ⊢
  have hl : lv_has ls 5 [(0, .ref (A 0)), (1, .ref (A (2000 + b))), (2, .ref (A (16 + 4 * u2))), (3, .ref (A cs))] := hl
  have hVB := hC.wf
  have hV4 : sV σ ≤ 400 := hVB.2.1
  have hB4 : sB σ ≤ 40 := hVB.2.2.2.1
  have hhd := hVB.2.2.2.2.1 b hb4
  refine lv_aload_n hx hb dX3_advance_0 rfl (lv_at hl 0 rfl) ?_
  refine lv_aload_n hx hb dX3_advance_1 rfl (lv_at hl 1 rfl) ?_
  refine k_getN (ci := 0) (C := RX0) (T := TX0) (N := 1) (v := .ref (A (16 + 4 * (sH σ b)))) hx hb hts (by decide +kernel) hown hK (hC.ba hb4) rfl 0 (by decide) rfl (List.mem_of_getElem? (i := 4) rfl) rfl dX3_advance_2 ?_
  refine lv_aload_n hx hb dX3_advance_5 rfl (lv_at hl 2 rfl) ?_
  refine lv_aload_n hx hb dX3_advance_6 rfl (lv_at hl 3 rfl) ?_
  refine k_callR (va_runV (As := [.ref (A (16 + 4 * (sH σ b))), .ref (A (16 + 4 * u2)), .ref (A cs)]) (rest := []) ⟨hx, hb, hml, hown, hts⟩ (c_X3_addVersion_11 l D g b0 H A σ dw hC cs fs hcs1 hcs2 hs hw hbH hV (sH σ b) hhd u2 hu2) (cwV 3 hts gX3_advance_X3_addVersion rfl rfl rfl (by decide +kernel) ⟨Nat.le_of_ble_eq_true rfl, Nat.le_of_ble_eq_true rfl⟩) ⟨kPc_blind, k_recv hK hC.o rfl, fun U hU hW => kPc_at hK hU hW⟩ rfl rfl hl.1 rfl (lv_room (Nat.le_of_ble_eq_true rfl)) dX3_advance_7 ⟨Nat.le_of_ble_eq_true rfl, Nat.le_of_ble_eq_true rfl⟩) LB.nil (fun a H1 locs1 hLB1 hq1 => ?_)
  refine W.widen (k := 4) (n := 470) (Nat.le_of_ble_eq_true rfl) (Nat.le_of_ble_eq_true rfl) ?_
  obtain ⟨q1, q2, q3, w1, an1, hC1, hF1, hw1, han⟩ := hq1
  have hba := hC1.ba (b := b) hb4
  have eb : AV A (sV σ) a q1 q2 q3 (2000 + b) = A (2000 + b) := AVo A (sV σ) a q1 q2 q3 (Or.inr (by omega))
  rw [eb] at hba
  refine lv_astore (lv' := [(4, .ref a), (0, .ref (A 0)), (1, .ref (A (2000 + b))), (2, .ref (A (16 + 4 * u2))), (3, .ref (A cs))]) hx hb dX3_advance_10 hl (by decide) rfl (fun ls hl => ?_)
  refine lv_aload hx hb dX3_advance_12 (lv_at hl 0 rfl) ?_
  refine lv_ifnonnull (tgt := 20) hx hb dX3_advance_14 (by decide) ?_
  refine lv_aload_n hx hb dX3_advance_20 rfl (lv_at hl 2 rfl) ?_
  refine lv_aload hx hb dX3_advance_21 (lv_at hl 0 rfl) ?_
  refine k_putN (ci := 0) (C := RX0) (T := TX0) (N := 1) (v := .ref a) hx hb hts (by decide +kernel) tyX0 tyX0_ok nmX0 hown hK hba hLB1 (hC.ge (clB hb4)) rfl 0 (by decide) rfl (List.mem_of_getElem? (i := 4) rfl) rfl (ty := .object "VersionMerge$Version") (by decide +kernel) rfl rfl (Nat.le_of_ble_eq_true rfl) dX3_advance_23 (fun H_743 locs_744 ho_745 hC_746 hLB_747 => ?_)
  have hC2 := hC1.head (b := b) (v := sV σ) hb4 (Nat.lt_succ_self _) (by rw [eb, AV0]; exact ho_745) (by rw [eb]; exact hC_746)
  have hF2 := hF1.tr (CFr.chg (σ1 := gStep σ b (some u2) w1 an1) (clB (σ := gGrow σ (some (sH σ b)) (some u2) w1 an1) (b := b) hb4) (by rw [eb]; exact hC_746) (fun c hc => hc))
  have hvn := hC2.ver (k := sV σ) (Nat.lt_succ_self _)
  rw [AV0] at hvn
  refine lv_aload hx hb dX3_advance_26 (lv_at hl 0 rfl) ?_
  refine k_getN (ci := 2) (C := RX2) (T := TX2) (N := 5) (v := .int (nI (sV σ))) hx hb hts (by decide +kernel) hown hK hvn rfl 0 (by decide) rfl (List.mem_of_getElem? (i := 0) rfl) rfl dX3_advance_28 ?_
  exact r_iI hx hb hr hLB_747 (Nat.le_refl _) (Nat.le_refl _) ⟨rfl, _, w1, an1, hC2, hF2, hw1, han⟩ dX3_advance_31 hlocks

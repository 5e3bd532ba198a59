/-! 18: the reference: a step of a branch, laying (laid by wip/gen/mod18.py) -/
set_option maxHeartbeats 4000000 in
set_option maxRecDepth 100000 in
/-- step(b) -/
theorem c_X4_step (l : Launch) (D : va_G) (g : Nat → ClassId) (b0 : Nat) (H : Heap) (μ : Nat → Nat) (σ : SG) (nC : Nat) (x : Nat → Nat → Int32) (hM : MC D g b0 μ (sV σ) (sB σ) nC x H) (hR : MR σ x) (hC4 : nC ≤ 64) (b : Nat) (hb4 : b < sB σ) (hV : sV σ < 400) (hb_ : Nat → Bool) (hh : ∀ t, t < 4096 → x 7 t = b2i (hb_ t)) : Met l yX4_step wsX4_step ({ frames := 1, cells := 0, slots := 0, locals := 23 } : Room) (kPc D g [.ref (μ 0), .int (nI b)] H) (kI (fun r H1 => r = nI (sV σ) ∧ ∃ x1 : Nat → Nat → Int32, MC D g b0 μ (sV σ + 1) (sB σ) nC x1 H1 ∧ MFr μ H H1 ∧ (∀ c, 8 ≤ c → x1 c = x c) ∧ ∀ (w : Nat → Int64) (an : Nat → Bool), AnOK σ (sV σ) (some (sH σ b)) none an → (∀ t, t < 4096 → bt w t = hb_ t) → MR (gStep σ b none w an) x1)) 0 0 (kF b0) := by
  refine Met.ofW (cc := cX4_step) (maxL := 2) (ret := (some .int)) (by decide) rfl ?_
  intro p e s m args below meth c s₁ B hml hv
  obtain ⟨rfl, hH, hK⟩ := hv
  have hx := B.exec
  have hb := B.bytes
  have hr := B.returns
  have hts := atoms_spec (ws := wsX4_step) B.pre
  have hown : s.vm.findClass RX4 = some m.cls := findClass_of_methodNamed B.named
  have hlocks := B.notSynchronized
  rw [hH]
  have hl := lv_entry ([.ref (μ 0), .int (nI b)]) (n := 2) (Nat.le_of_ble_eq_true rfl)
  rw [lg_entry_eq]
  generalize (lg_sl ([.ref (μ 0), .int (nI b)]) ++ List.replicate (2 - (lg_sl ([.ref (μ 0), .int (nI b)])).length) Slot.unset).toArray = ls at hl ⊢
  have hl : lv_has ls 2 [(0, .ref (μ 0)), (1, .int (nI b))] := hl
  have hWF := hR.1
  have hV4 : sV σ ≤ 400 := hWF.2.1
  have hB4 : sB σ ≤ 40 := hWF.2.2.2.1
  have hhd := hWF.2.2.2.2.1 b hb4
  refine lv_aload_n hx hb dX4_step_0 rfl (lv_at hl 0 rfl) ?_
  refine k_get (ci := 4) (C := RX4) (T := TX4) (N := 13) (v := .ref (μ 4)) hx hb hts (by decide +kernel) hown hK hM.o rfl 4 (by decide) rfl (hts (.fieldLink RX4 21 RX4 "heads" "[I") (by decide +kernel)) rfl dX4_step_1 ?_
  refine lv_iload_n hx hb dX4_step_4 rfl (lv_at hl 1 rfl) ?_
  refine lv_aload_n hx hb dX4_step_5 rfl (lv_at hl 0 rfl) ?_
  refine lv_aload_n hx hb dX4_step_6 rfl (lv_at hl 0 rfl) ?_
  refine k_get (ci := 4) (C := RX4) (T := TX4) (N := 13) (v := .ref (μ 4)) hx hb hts (by decide +kernel) hown hK hM.o rfl 4 (by decide) rfl (hts (.fieldLink RX4 21 RX4 "heads" "[I") (by decide +kernel)) rfl dX4_step_7 ?_
  refine lv_iload_n hx hb dX4_step_10 rfl (lv_at hl 1 rfl) ?_
  refine k_iald hx hb hK hM.a4 (b) rfl (by omega) (by omega) dX4_step_11 ?_
  rw [show x 4 (b) = nI (sH σ b) from (hR.2.2.2.2 b hb4)]
  refine lv_iconst (v := (-1)) hx hb dX4_step_12 (by decide +kernel) ?_
  refine k_callI (va_runV (As := [.int (nI (sH σ b)), .int ((-1))]) (rest := [.int (nI b), .ref (μ 4)]) ⟨hx, hb, hml, hown, hts⟩ (c_X4_grow l D g b0 H μ (sV σ) (sB σ) nC x hM hV4 hB4 hC4 hV (nI (sH σ b)) ((-1)) hb_ hh) (cwV 2 hts gX4_step_X4_grow rfl rfl rfl (by decide +kernel) ⟨Nat.le_of_ble_eq_true rfl, Nat.le_of_ble_eq_true rfl⟩) ⟨kPc_blind, k_recv hK hM.o rfl, fun U hU hW => kPc_at hK hU hW⟩ rfl rfl hl.1 rfl (lv_room (Nat.le_of_ble_eq_true rfl)) dX4_step_13 ⟨Nat.le_of_ble_eq_true rfl, Nat.le_of_ble_eq_true rfl⟩) LB.nil (fun rg H1 locs1 hLB1 hq1 => ?_)
  obtain ⟨rfl, s1, hM1, hF1, hs1, hs2⟩ := hq1
  refine k_iast hx hb hK hM1.a4 hLB1 (hM1.ge (by omega)) (b) rfl (by omega) (by omega) dX4_step_16 (fun H_665 locs_666 hw_667 hC_668 hLB_669 => ?_)
  have hM_670 := hM1.set (c := 4) (by omega) (by omega) (f := (upd ((va_up (va_up (va_up x 2 (upd (x 2) (sV σ) (nI (sH σ b)))) 3 (upd (x 3) (sV σ) ((-1)))) 1 s1) 4) (b) (nI (sV σ)))) hw_667 hC_668
  refine lv_aload_n hx hb dX4_step_17 rfl (lv_at hl 0 rfl) ?_
  refine k_get (ci := 4) (C := RX4) (T := TX4) (N := 13) (v := .ref (μ 4)) hx hb hts (by decide +kernel) hown hK hM_670.o rfl 4 (by decide) rfl (hts (.fieldLink RX4 21 RX4 "heads" "[I") (by decide +kernel)) rfl dX4_step_18 ?_
  refine lv_iload_n hx hb dX4_step_21 rfl (lv_at hl 1 rfl) ?_
  refine k_iald hx hb hK hM_670.a4 (b) rfl (by omega) (by omega) dX4_step_22 ?_
  rw [show (va_up (va_up (va_up (va_up x 2 (upd (x 2) (sV σ) (nI (sH σ b)))) 3 (upd (x 3) (sV σ) ((-1)))) 1 s1) 4 (upd ((va_up (va_up (va_up x 2 (upd (x 2) (sV σ) (nI (sH σ b)))) 3 (upd (x 3) (sV σ) ((-1)))) 1 s1) 4) (b) (nI (sV σ)))) 4 (b) = nI (sV σ) from (by rw [up_eq, pk_us])]
  refine r_iI hx hb hr hLB_669 (Nat.le_refl _) (Nat.le_refl _) ⟨rfl, _, hM_670, hF1.tr (MFr.chg (by omega) hC_668), (fun c hc => by rw [up_ne _ _ (by omega), up_ne _ _ (by omega), up_ne _ _ (by omega), up_ne _ _ (by omega)]), fun w an ha hw => ?_⟩ dX4_step_23 hlocks
  have hg := hR.grow (f := some (sH σ b)) (s := none) (w := w) (an := an) (s1 := s1) hV (fun p hp => by cases hp; exact hhd) (fun p hp => by cases hp) ha (fun t ht => by rw [hs1 t ht, hw t ht]) hs2
  exact hg.head (b := b) (v := sV σ) (Nat.lt_succ_self _)
set_option maxHeartbeats 4000000 in
set_option maxRecDepth 100000 in
/-- lay(h, n) -/
theorem c_X4_lay_0 (l : Launch) (D : va_G) (g : Nat → ClassId) (b0 : Nat) (H : Heap) (μ : Nat → Nat) (σ : SG) (nC : Nat) (x : Nat → Nat → Int32) (hM : MC D g b0 μ (sV σ) (sB σ) nC x H) (hR : MR σ x) (hC4 : nC ≤ 64) (h n : Nat) (hh4 : h < sV σ) (hn : n < sV σ) : Met l yX4_lay wsX4_lay ({ frames := 1, cells := 0, slots := 0, locals := 22 } : Room) (kPc D g [.ref (μ 0), .int (nI h), .int (nI n)] H) (kI (fun r H1 => ∃ (ok : Bool) (h1 : Nat → Int32), r = b2i ok ∧ MC D g b0 μ (sV σ) (sB σ) nC (va_up x 7 h1) H1 ∧ MFr μ H H1 ∧ (∀ t, t < 4096 → h1 t = b2i ((bt (sW σ n) t && !(obit σ (sF σ n) t)) || (bt (sW σ h) t && !(obit σ (sF σ n) t && !(bt (sW σ n) t))))) ∧ (ok = true ↔ ((∀ t, t < 4096 → (obit σ (sF σ n) t) = true → (bt (sW σ n) t) = false → (bt (sW σ h) t) = true) ∧ (∃ t, t < 4096 ∧ (((bt (sW σ n) t) = true ∧ (obit σ (sF σ n) t) = false ∧ (bt (sW σ h) t) = false) ∨ ((obit σ (sF σ n) t) = true ∧ (bt (sW σ n) t) = false ∧ (bt (sW σ h) t) = true))))))) 0 0 (kF b0) := by
  refine Met.ofW (cc := cX4_lay) (maxL := 12) (ret := (some .boolean)) (by decide) rfl ?_
  intro p e s m args below meth c s₁ B hml hv
  obtain ⟨rfl, hH, hK⟩ := hv
  have hx := B.exec
  have hb := B.bytes
  have hr := B.returns
  have hts := atoms_spec (ws := wsX4_lay) B.pre
  have hown : s.vm.findClass RX4 = some m.cls := findClass_of_methodNamed B.named
  have hlocks := B.notSynchronized
  rw [hH]
  have hl := lv_entry ([.ref (μ 0), .int (nI h), .int (nI n)]) (n := 12) (Nat.le_of_ble_eq_true rfl)
  rw [lg_entry_eq]
  generalize (lg_sl ([.ref (μ 0), .int (nI h), .int (nI n)]) ++ List.replicate (12 - (lg_sl ([.ref (μ 0), .int (nI h), .int (nI n)])).length) Slot.unset).toArray = ls at hl ⊢
  have hl : lv_has ls 12 [(0, .ref (μ 0)), (1, .int (nI h)), (2, .int (nI n))] := hl
  have hWF := hR.1
  have hV4 : sV σ ≤ 400 := hWF.2.1
  have hB4 : sB σ ≤ 40 := hWF.2.2.2.1
  have hfo : OLt (sF σ n) (sV σ) := fun p hp => Nat.lt_trans ((hWF.2.2.2.2.2 n hn).1 p hp) hn
  refine lv_iload_n hx hb dX4_lay_0 rfl (lv_at hl 2 rfl) ?_
  refine n_if_ge (tgt := 10) hx hb dX4_lay_1 (by decide) (by omega) ?_
  refine lv_iload_n hx hb dX4_lay_10 rfl (lv_at hl 2 rfl) ?_
  refine lv_istore_n (lv' := [(3, .int (nI n)), (0, .ref (μ 0)), (1, .int (nI h)), (2, .int (nI n))]) hx hb dX4_lay_11 rfl hl (by decide) rfl (fun ls hl => ?_)
  refine lv_iconst (v := b2i true) hx hb dX4_lay_12 (by decide +kernel) ?_
  refine lv_istore (lv' := [(4, .int (b2i true)), (3, .int (nI n)), (0, .ref (μ 0)), (1, .int (nI h)), (2, .int (nI n))]) hx hb dX4_lay_13 hl (by decide) rfl (fun ls hl => ?_)
  refine lv_iconst (v := b2i false) hx hb dX4_lay_15 (by decide +kernel) ?_
  refine lv_istore (lv' := [(5, .int (b2i false)), (4, .int (b2i true)), (3, .int (nI n)), (0, .ref (μ 0)), (1, .int (nI h)), (2, .int (nI n))]) hx hb dX4_lay_16 hl (by decide) rfl (fun ls hl => ?_)
  refine lv_iconst (v := nI 0) hx hb dX4_lay_18 (by decide +kernel) ?_
  refine lv_istore (lv' := [(6, .int (nI 0)), (5, .int (b2i false)), (4, .int (b2i true)), (3, .int (nI n)), (0, .ref (μ 0)), (1, .int (nI h)), (2, .int (nI n))]) hx hb dX4_lay_19 hl (by decide) rfl (fun ls hl => ?_)
  have loop : ∀ (N i : Nat) (H1 : Heap) (locs1 : List Loc) (h1 : Nat → Int32) (ca ch : Bool), 4096 < i + N → i ≤ 4096 → MC D g b0 μ (sV σ) (sB σ) nC (va_up x 7 h1) H1 → MFr μ H H1 → LB b0 locs1 → (∀ t, t < i → h1 t = b2i ((bt (sW σ n) t && !(obit σ (sF σ n) t)) || (bt (sW σ h) t && !(obit σ (sF σ n) t && !(bt (sW σ n) t))))) → (ca = true ↔ (∀ t, t < i → (obit σ (sF σ n) t) = true → (bt (sW σ n) t) = false → (bt (sW σ h) t) = true)) → (ch = true ↔ (∃ t, t < i ∧ (((bt (sW σ n) t) = true ∧ (obit σ (sF σ n) t) = false ∧ (bt (sW σ h) t) = false) ∨ ((obit σ (sF σ n) t) = true ∧ (bt (sW σ n) t) = false ∧ (bt (sW σ h) t) = true)))) → ∀ ls, lv_has ls 12 [(6, .int (nI i)), (5, .int (b2i ch)), (4, .int (b2i ca)), (3, .int (nI n)), (0, .ref (μ 0)), (1, .int (nI h)), (2, .int (nI n))] → W p l e (headSpec wsX4_lay ({ frames := 1, cells := 0, slots := 0, locals := 22 } : Room)).room s m ([.ref (μ 0), .int (nI h), .int (nI n)] : List Value).toArray below meth c H1 locs1 0 0 (MQ below (kI (fun r H1 => ∃ (ok : Bool) (h1 : Nat → Int32), r = b2i ok ∧ MC D g b0 μ (sV σ) (sB σ) nC (va_up x 7 h1) H1 ∧ MFr μ H H1 ∧ (∀ t, t < 4096 → h1 t = b2i ((bt (sW σ n) t && !(obit σ (sF σ n) t)) || (bt (sW σ h) t && !(obit σ (sF σ n) t && !(bt (sW σ n) t))))) ∧ (ok = true ↔ ((∀ t, t < 4096 → (obit σ (sF σ n) t) = true → (bt (sW σ n) t) = false → (bt (sW σ h) t) = true) ∧ (∃ t, t < 4096 ∧ (((bt (sW σ n) t) = true ∧ (obit σ (sF σ n) t) = false ∧ (bt (sW σ h) t) = false) ∨ ((obit σ (sF σ n) t) = true ∧ (bt (sW σ n) t) = false ∧ (bt (sW σ h) t) = true))))))) ([.ref (μ 0), .int (nI h), .int (nI n)] : List Value).toArray s 0 0 (kF b0)) (F0 m 21 ls []) := by
    intro N
    induction N with
    | zero => intro i H1 locs1 h1 ca ch h0 h1; omega
    | succ N ih =>
      intro i H1 locs1 h1 ca ch hN hi hM1 hF hLB hv hca hch ls hl
      have hR1 := hR.up (c := 7) (by omega) h1
      refine lv_iload hx hb dX4_lay_21 (lv_at hl 0 rfl) ?_
      refine lv_sipush (v := nI 4096) hx hb dX4_lay_23 (by decide +kernel) ?_
      refine n_icmp_ge (tgt := 207) hx hb dX4_lay_26 (by decide) (by omega) (by omega) (fun c_671 => ?_) (fun c_671 => ?_)
      · skip
        have seg_672 : ∀ ls, lv_has ls 12 [(6, .int (nI i)), (5, .int (b2i ch)), (4, .int (b2i ca)), (3, .int (nI n)), (0, .ref (μ 0)), (1, .int (nI h)), (2, .int (nI n))] → W p l e (headSpec wsX4_lay ({ frames := 1, cells := 0, slots := 0, locals := 22 } : Room)).room s m ([.ref (μ 0), .int (nI h), .int (nI n)] : List Value).toArray below meth c H1 locs1 0 0 (MQ below (kI (fun r H1 => ∃ (ok : Bool) (h1 : Nat → Int32), r = b2i ok ∧ MC D g b0 μ (sV σ) (sB σ) nC (va_up x 7 h1) H1 ∧ MFr μ H H1 ∧ (∀ t, t < 4096 → h1 t = b2i ((bt (sW σ n) t && !(obit σ (sF σ n) t)) || (bt (sW σ h) t && !(obit σ (sF σ n) t && !(bt (sW σ n) t))))) ∧ (ok = true ↔ ((∀ t, t < 4096 → (obit σ (sF σ n) t) = true → (bt (sW σ n) t) = false → (bt (sW σ h) t) = true) ∧ (∃ t, t < 4096 ∧ (((bt (sW σ n) t) = true ∧ (obit σ (sF σ n) t) = false ∧ (bt (sW σ h) t) = false) ∨ ((obit σ (sF σ n) t) = true ∧ (bt (sW σ n) t) = false ∧ (bt (sW σ h) t) = true))))))) ([.ref (μ 0), .int (nI h), .int (nI n)] : List Value).toArray s 0 0 (kF b0)) (F0 m 222 ls [.int (b2i ((ca && ch)))]) → W p l e (headSpec wsX4_lay ({ frames := 1, cells := 0, slots := 0, locals := 22 } : Room)).room s m ([.ref (μ 0), .int (nI h), .int (nI n)] : List Value).toArray below meth c H1 locs1 0 0 (MQ below (kI (fun r H1 => ∃ (ok : Bool) (h1 : Nat → Int32), r = b2i ok ∧ MC D g b0 μ (sV σ) (sB σ) nC (va_up x 7 h1) H1 ∧ MFr μ H H1 ∧ (∀ t, t < 4096 → h1 t = b2i ((bt (sW σ n) t && !(obit σ (sF σ n) t)) || (bt (sW σ h) t && !(obit σ (sF σ n) t && !(bt (sW σ n) t))))) ∧ (ok = true ↔ ((∀ t, t < 4096 → (obit σ (sF σ n) t) = true → (bt (sW σ n) t) = false → (bt (sW σ h) t) = true) ∧ (∃ t, t < 4096 ∧ (((bt (sW σ n) t) = true ∧ (obit σ (sF σ n) t) = false ∧ (bt (sW σ h) t) = false) ∨ ((obit σ (sF σ n) t) = true ∧ (bt (sW σ n) t) = false ∧ (bt (sW σ h) t) = true))))))) ([.ref (μ 0), .int (nI h), .int (nI n)] : List Value).toArray s 0 0 (kF b0)) (F0 m 207 ls []) := by
          intro ls hl hk
          refine lv_iload hx hb dX4_lay_207 (lv_at hl 2 rfl) ?_
          refine z_if_eq (tgt := 221) hx hb dX4_lay_209 (by decide) (fun c_673 => ?_) (fun c_673 => ?_)
          · skip
            refine lv_iconst (v := b2i false) hx hb dX4_lay_221 (by decide +kernel) ?_
            have e : ((ca && ch)) = false := by
              revert c_673
              cases (ca) <;> cases (ch) <;> simp
            rw [e] at hk
            exact hk
          · skip
            refine lv_iload hx hb dX4_lay_212 (lv_at hl 1 rfl) ?_
            refine z_if_eq (tgt := 221) hx hb dX4_lay_214 (by decide) (fun c_674 => ?_) (fun c_674 => ?_)
            · skip
              refine lv_iconst (v := b2i false) hx hb dX4_lay_221 (by decide +kernel) ?_
              have e : ((ca && ch)) = false := by
                revert c_673 c_674
                cases (ca) <;> cases (ch) <;> simp
              rw [e] at hk
              exact hk
            · skip
              refine lv_iconst (v := b2i true) hx hb dX4_lay_217 (by decide +kernel) ?_
              refine lv_goto (tgt := 222) hx hb dX4_lay_218 (by decide) ?_
              have e : ((ca && ch)) = true := by
                revert c_673 c_674
                cases (ca) <;> cases (ch) <;> simp
              rw [e] at hk
              exact hk
        refine seg_672 ls hl ?_
        exact r_zI hx hb hr hLB (Nat.le_refl _) (Nat.le_refl _) ⟨_, h1, rfl, hM1, hF, fun t ht => hv t (by omega), by rw [Bool.and_eq_true, hca, hch, show i = 4096 by omega]⟩ dX4_lay_222 hlocks
      · skip
        refine lv_aload_n hx hb dX4_lay_29 rfl (lv_at hl 4 rfl) ?_
        refine lv_iload_n hx hb dX4_lay_30 rfl (lv_at hl 3 rfl) ?_
        refine lv_iload hx hb dX4_lay_31 (lv_at hl 0 rfl) ?_
        refine k_callX (va_runV (As := [.int (nI n), .int (nI i)]) (rest := []) ⟨hx, hb, hml, hown, hts⟩ (c_X4_has l D g b0 H1 μ (sV σ) (sB σ) (nC) (va_up x 7 h1) hM1 (by omega) (by omega) (by omega) (some n) (i) (by omega) (bt (sW σ n) i) (hR1.has (o := some n) (fun p hp => by cases hp; exact hn) (by omega))) (cwV 2 hts gX4_lay_X4_has rfl rfl rfl (by decide +kernel) ⟨Nat.le_of_ble_eq_true rfl, Nat.le_of_ble_eq_true rfl⟩) ⟨kPc_blind, k_recv hK hM1.o rfl, fun U hU hW => kPc_at hK hU hW⟩ rfl rfl hl.1 rfl (lv_room (Nat.le_of_ble_eq_true rfl)) dX4_lay_33 ⟨Nat.le_of_ble_eq_true rfl, Nat.le_of_ble_eq_true rfl⟩) ?_
        refine lv_istore (lv' := [(7, .int (b2i (bt (sW σ n) i))), (6, .int (nI i)), (5, .int (b2i ch)), (4, .int (b2i ca)), (3, .int (nI n)), (0, .ref (μ 0)), (1, .int (nI h)), (2, .int (nI n))]) hx hb dX4_lay_36 hl (by decide) rfl (fun ls hl => ?_)
        refine lv_aload_n hx hb dX4_lay_38 rfl (lv_at hl 5 rfl) ?_
        refine lv_aload_n hx hb dX4_lay_39 rfl (lv_at hl 5 rfl) ?_
        refine k_get (ci := 4) (C := RX4) (T := TX4) (N := 13) (v := .ref (μ 2)) hx hb hts (by decide +kernel) hown hK hM1.o rfl 1 (by decide) rfl (hts (.fieldLink RX4 14 RX4 "firsts" "[I") (by decide +kernel)) rfl dX4_lay_40 ?_
        refine lv_iload_n hx hb dX4_lay_43 rfl (lv_at hl 4 rfl) ?_
        refine k_iald hx hb hK hM1.a2 (n) rfl (by omega) (by omega) dX4_lay_44 ?_
        rw [show (va_up x 7 h1) 2 (n) = pI (sF σ n) from (hR.2.2.1 n hn)]
        refine lv_iload hx hb dX4_lay_45 (lv_at hl 1 rfl) ?_
        refine k_callX (va_runV (As := [.int (pI (sF σ n)), .int (nI i)]) (rest := []) ⟨hx, hb, hml, hown, hts⟩ (c_X4_has l D g b0 H1 μ (sV σ) (sB σ) (nC) (va_up x 7 h1) hM1 (by omega) (by omega) (by omega) (sF σ n) (i) (by omega) (obit σ (sF σ n) i) (hR1.has hfo (by omega))) (cwV 2 hts gX4_lay_X4_has rfl rfl rfl (by decide +kernel) ⟨Nat.le_of_ble_eq_true rfl, Nat.le_of_ble_eq_true rfl⟩) ⟨kPc_blind, k_recv hK hM1.o rfl, fun U hU hW => kPc_at hK hU hW⟩ rfl rfl hl.1 rfl (lv_room (Nat.le_of_ble_eq_true rfl)) dX4_lay_47 ⟨Nat.le_of_ble_eq_true rfl, Nat.le_of_ble_eq_true rfl⟩) ?_
        refine lv_istore (lv' := [(8, .int (b2i (obit σ (sF σ n) i))), (7, .int (b2i (bt (sW σ n) i))), (6, .int (nI i)), (5, .int (b2i ch)), (4, .int (b2i ca)), (3, .int (nI n)), (0, .ref (μ 0)), (1, .int (nI h)), (2, .int (nI n))]) hx hb dX4_lay_50 hl (by decide) rfl (fun ls hl => ?_)
        refine lv_aload_n hx hb dX4_lay_52 rfl (lv_at hl 6 rfl) ?_
        refine lv_iload_n hx hb dX4_lay_53 rfl (lv_at hl 7 rfl) ?_
        refine lv_iload hx hb dX4_lay_54 (lv_at hl 2 rfl) ?_
        refine k_callX (va_runV (As := [.int (nI h), .int (nI i)]) (rest := []) ⟨hx, hb, hml, hown, hts⟩ (c_X4_has l D g b0 H1 μ (sV σ) (sB σ) (nC) (va_up x 7 h1) hM1 (by omega) (by omega) (by omega) (some h) (i) (by omega) (bt (sW σ h) i) (hR1.has (o := some h) (fun p hp => by cases hp; exact hh4) (by omega))) (cwV 2 hts gX4_lay_X4_has rfl rfl rfl (by decide +kernel) ⟨Nat.le_of_ble_eq_true rfl, Nat.le_of_ble_eq_true rfl⟩) ⟨kPc_blind, k_recv hK hM1.o rfl, fun U hU hW => kPc_at hK hU hW⟩ rfl rfl hl.1 rfl (lv_room (Nat.le_of_ble_eq_true rfl)) dX4_lay_56 ⟨Nat.le_of_ble_eq_true rfl, Nat.le_of_ble_eq_true rfl⟩) ?_
        refine lv_istore (lv' := [(9, .int (b2i (bt (sW σ h) i))), (8, .int (b2i (obit σ (sF σ n) i))), (7, .int (b2i (bt (sW σ n) i))), (6, .int (nI i)), (5, .int (b2i ch)), (4, .int (b2i ca)), (3, .int (nI n)), (0, .ref (μ 0)), (1, .int (nI h)), (2, .int (nI n))]) hx hb dX4_lay_59 hl (by decide) rfl (fun ls hl => ?_)
        have seg_675 : ∀ ls, lv_has ls 12 [(9, .int (b2i (bt (sW σ h) i))), (8, .int (b2i (obit σ (sF σ n) i))), (7, .int (b2i (bt (sW σ n) i))), (6, .int (nI i)), (5, .int (b2i ch)), (4, .int (b2i ca)), (3, .int (nI n)), (0, .ref (μ 0)), (1, .int (nI h)), (2, .int (nI n))] → W p l e (headSpec wsX4_lay ({ frames := 1, cells := 0, slots := 0, locals := 22 } : Room)).room s m ([.ref (μ 0), .int (nI h), .int (nI n)] : List Value).toArray below meth c H1 locs1 0 0 (MQ below (kI (fun r H1 => ∃ (ok : Bool) (h1 : Nat → Int32), r = b2i ok ∧ MC D g b0 μ (sV σ) (sB σ) nC (va_up x 7 h1) H1 ∧ MFr μ H H1 ∧ (∀ t, t < 4096 → h1 t = b2i ((bt (sW σ n) t && !(obit σ (sF σ n) t)) || (bt (sW σ h) t && !(obit σ (sF σ n) t && !(bt (sW σ n) t))))) ∧ (ok = true ↔ ((∀ t, t < 4096 → (obit σ (sF σ n) t) = true → (bt (sW σ n) t) = false → (bt (sW σ h) t) = true) ∧ (∃ t, t < 4096 ∧ (((bt (sW σ n) t) = true ∧ (obit σ (sF σ n) t) = false ∧ (bt (sW σ h) t) = false) ∨ ((obit σ (sF σ n) t) = true ∧ (bt (sW σ n) t) = false ∧ (bt (sW σ h) t) = true))))))) ([.ref (μ 0), .int (nI h), .int (nI n)] : List Value).toArray s 0 0 (kF b0)) (F0 m 98 ls [.int (b2i ((bt (sW σ n) i && !(obit σ (sF σ n) i))))]) → W p l e (headSpec wsX4_lay ({ frames := 1, cells := 0, slots := 0, locals := 22 } : Room)).room s m ([.ref (μ 0), .int (nI h), .int (nI n)] : List Value).toArray below meth c H1 locs1 0 0 (MQ below (kI (fun r H1 => ∃ (ok : Bool) (h1 : Nat → Int32), r = b2i ok ∧ MC D g b0 μ (sV σ) (sB σ) nC (va_up x 7 h1) H1 ∧ MFr μ H H1 ∧ (∀ t, t < 4096 → h1 t = b2i ((bt (sW σ n) t && !(obit σ (sF σ n) t)) || (bt (sW σ h) t && !(obit σ (sF σ n) t && !(bt (sW σ n) t))))) ∧ (ok = true ↔ ((∀ t, t < 4096 → (obit σ (sF σ n) t) = true → (bt (sW σ n) t) = false → (bt (sW σ h) t) = true) ∧ (∃ t, t < 4096 ∧ (((bt (sW σ n) t) = true ∧ (obit σ (sF σ n) t) = false ∧ (bt (sW σ h) t) = false) ∨ ((obit σ (sF σ n) t) = true ∧ (bt (sW σ n) t) = false ∧ (bt (sW σ h) t) = true))))))) ([.ref (μ 0), .int (nI h), .int (nI n)] : List Value).toArray s 0 0 (kF b0)) (F0 m 61 ls []) := by
          intro ls hl hk
          refine lv_iload_n hx hb dX4_lay_61 rfl (lv_at hl 9 rfl) ?_
          refine n_if_ge (tgt := 83) hx hb dX4_lay_62 (by decide) (by omega) ?_
          refine lv_iload hx hb dX4_lay_83 (lv_at hl 2 rfl) ?_
          refine z_if_eq (tgt := 97) hx hb dX4_lay_85 (by decide) (fun c_676 => ?_) (fun c_676 => ?_)
          · skip
            refine lv_iconst (v := b2i false) hx hb dX4_lay_97 (by decide +kernel) ?_
            have e : ((bt (sW σ n) i && !(obit σ (sF σ n) i))) = false := by
              revert c_676
              cases (bt (sW σ n) i) <;> cases (obit σ (sF σ n) i) <;> simp
            rw [e] at hk
            exact hk
          · skip
            refine lv_iload hx hb dX4_lay_88 (lv_at hl 1 rfl) ?_
            refine z_if_ne (tgt := 97) hx hb dX4_lay_90 (by decide) (fun c_677 => ?_) (fun c_677 => ?_)
            · skip
              refine lv_iconst (v := b2i false) hx hb dX4_lay_97 (by decide +kernel) ?_
              have e : ((bt (sW σ n) i && !(obit σ (sF σ n) i))) = false := by
                revert c_676 c_677
                cases (bt (sW σ n) i) <;> cases (obit σ (sF σ n) i) <;> simp
              rw [e] at hk
              exact hk
            · skip
              refine lv_iconst (v := b2i true) hx hb dX4_lay_93 (by decide +kernel) ?_
              refine lv_goto (tgt := 98) hx hb dX4_lay_94 (by decide) ?_
              have e : ((bt (sW σ n) i && !(obit σ (sF σ n) i))) = true := by
                revert c_676 c_677
                cases (bt (sW σ n) i) <;> cases (obit σ (sF σ n) i) <;> simp
              rw [e] at hk
              exact hk
        refine seg_675 ls hl ?_
        refine lv_istore (lv' := [(10, .int (b2i ((bt (sW σ n) i && !(obit σ (sF σ n) i))))), (9, .int (b2i (bt (sW σ h) i))), (8, .int (b2i (obit σ (sF σ n) i))), (7, .int (b2i (bt (sW σ n) i))), (6, .int (nI i)), (5, .int (b2i ch)), (4, .int (b2i ca)), (3, .int (nI n)), (0, .ref (μ 0)), (1, .int (nI h)), (2, .int (nI n))]) hx hb dX4_lay_98 hl (by decide) rfl (fun ls hl => ?_)
        have seg_678 : ∀ ls, lv_has ls 12 [(10, .int (b2i ((bt (sW σ n) i && !(obit σ (sF σ n) i))))), (9, .int (b2i (bt (sW σ h) i))), (8, .int (b2i (obit σ (sF σ n) i))), (7, .int (b2i (bt (sW σ n) i))), (6, .int (nI i)), (5, .int (b2i ch)), (4, .int (b2i ca)), (3, .int (nI n)), (0, .ref (μ 0)), (1, .int (nI h)), (2, .int (nI n))] → W p l e (headSpec wsX4_lay ({ frames := 1, cells := 0, slots := 0, locals := 22 } : Room)).room s m ([.ref (μ 0), .int (nI h), .int (nI n)] : List Value).toArray below meth c H1 locs1 0 0 (MQ below (kI (fun r H1 => ∃ (ok : Bool) (h1 : Nat → Int32), r = b2i ok ∧ MC D g b0 μ (sV σ) (sB σ) nC (va_up x 7 h1) H1 ∧ MFr μ H H1 ∧ (∀ t, t < 4096 → h1 t = b2i ((bt (sW σ n) t && !(obit σ (sF σ n) t)) || (bt (sW σ h) t && !(obit σ (sF σ n) t && !(bt (sW σ n) t))))) ∧ (ok = true ↔ ((∀ t, t < 4096 → (obit σ (sF σ n) t) = true → (bt (sW σ n) t) = false → (bt (sW σ h) t) = true) ∧ (∃ t, t < 4096 ∧ (((bt (sW σ n) t) = true ∧ (obit σ (sF σ n) t) = false ∧ (bt (sW σ h) t) = false) ∨ ((obit σ (sF σ n) t) = true ∧ (bt (sW σ n) t) = false ∧ (bt (sW σ h) t) = true))))))) ([.ref (μ 0), .int (nI h), .int (nI n)] : List Value).toArray s 0 0 (kF b0)) (F0 m 117 ls [.int (b2i ((obit σ (sF σ n) i && !(bt (sW σ n) i))))]) → W p l e (headSpec wsX4_lay ({ frames := 1, cells := 0, slots := 0, locals := 22 } : Room)).room s m ([.ref (μ 0), .int (nI h), .int (nI n)] : List Value).toArray below meth c H1 locs1 0 0 (MQ below (kI (fun r H1 => ∃ (ok : Bool) (h1 : Nat → Int32), r = b2i ok ∧ MC D g b0 μ (sV σ) (sB σ) nC (va_up x 7 h1) H1 ∧ MFr μ H H1 ∧ (∀ t, t < 4096 → h1 t = b2i ((bt (sW σ n) t && !(obit σ (sF σ n) t)) || (bt (sW σ h) t && !(obit σ (sF σ n) t && !(bt (sW σ n) t))))) ∧ (ok = true ↔ ((∀ t, t < 4096 → (obit σ (sF σ n) t) = true → (bt (sW σ n) t) = false → (bt (sW σ h) t) = true) ∧ (∃ t, t < 4096 ∧ (((bt (sW σ n) t) = true ∧ (obit σ (sF σ n) t) = false ∧ (bt (sW σ h) t) = false) ∨ ((obit σ (sF σ n) t) = true ∧ (bt (sW σ n) t) = false ∧ (bt (sW σ h) t) = true))))))) ([.ref (μ 0), .int (nI h), .int (nI n)] : List Value).toArray s 0 0 (kF b0)) (F0 m 100 ls []) := by
          intro ls hl hk
          refine lv_iload hx hb dX4_lay_100 (lv_at hl 3 rfl) ?_
          refine lv_iload hx hb dX4_lay_102 (lv_at hl 2 rfl) ?_
          refine z_icmp_eq (tgt := 116) hx hb dX4_lay_104 (by decide) (fun c_679 => ?_) (fun c_679 => ?_)
          · skip
            refine lv_iconst (v := b2i false) hx hb dX4_lay_116 (by decide +kernel) ?_
            have e : ((obit σ (sF σ n) i && !(bt (sW σ n) i))) = false := by
              revert c_679
              cases (bt (sW σ n) i) <;> cases (obit σ (sF σ n) i) <;> simp
            rw [e] at hk
            exact hk
          · skip
            refine lv_iload hx hb dX4_lay_107 (lv_at hl 0 rfl) ?_
            refine z_if_ne (tgt := 116) hx hb dX4_lay_109 (by decide) (fun c_680 => ?_) (fun c_680 => ?_)
            · skip
              refine lv_iconst (v := b2i false) hx hb dX4_lay_116 (by decide +kernel) ?_
              have e : ((obit σ (sF σ n) i && !(bt (sW σ n) i))) = false := by
                revert c_679 c_680
                cases (bt (sW σ n) i) <;> cases (obit σ (sF σ n) i) <;> simp
              rw [e] at hk
              exact hk
            · skip
              refine lv_iconst (v := b2i true) hx hb dX4_lay_112 (by decide +kernel) ?_
              refine lv_goto (tgt := 117) hx hb dX4_lay_113 (by decide) ?_
              have e : ((obit σ (sF σ n) i && !(bt (sW σ n) i))) = true := by
                revert c_679 c_680
                cases (bt (sW σ n) i) <;> cases (obit σ (sF σ n) i) <;> simp
              rw [e] at hk
              exact hk
        refine seg_678 ls hl ?_
        refine lv_istore (lv' := [(11, .int (b2i ((obit σ (sF σ n) i && !(bt (sW σ n) i))))), (10, .int (b2i ((bt (sW σ n) i && !(obit σ (sF σ n) i))))), (9, .int (b2i (bt (sW σ h) i))), (8, .int (b2i (obit σ (sF σ n) i))), (7, .int (b2i (bt (sW σ n) i))), (6, .int (nI i)), (5, .int (b2i ch)), (4, .int (b2i ca)), (3, .int (nI n)), (0, .ref (μ 0)), (1, .int (nI h)), (2, .int (nI n))]) hx hb dX4_lay_117 hl (by decide) rfl (fun ls hl => ?_)
        have seg_681 : ∀ ls, lv_has ls 12 [(11, .int (b2i ((obit σ (sF σ n) i && !(bt (sW σ n) i))))), (10, .int (b2i ((bt (sW σ n) i && !(obit σ (sF σ n) i))))), (9, .int (b2i (bt (sW σ h) i))), (8, .int (b2i (obit σ (sF σ n) i))), (7, .int (b2i (bt (sW σ n) i))), (6, .int (nI i)), (5, .int (b2i ch)), (4, .int (b2i ca)), (3, .int (nI n)), (0, .ref (μ 0)), (1, .int (nI h)), (2, .int (nI n))] → W p l e (headSpec wsX4_lay ({ frames := 1, cells := 0, slots := 0, locals := 22 } : Room)).room s m ([.ref (μ 0), .int (nI h), .int (nI n)] : List Value).toArray below meth c H1 locs1 0 0 (MQ below (kI (fun r H1 => ∃ (ok : Bool) (h1 : Nat → Int32), r = b2i ok ∧ MC D g b0 μ (sV σ) (sB σ) nC (va_up x 7 h1) H1 ∧ MFr μ H H1 ∧ (∀ t, t < 4096 → h1 t = b2i ((bt (sW σ n) t && !(obit σ (sF σ n) t)) || (bt (sW σ h) t && !(obit σ (sF σ n) t && !(bt (sW σ n) t))))) ∧ (ok = true ↔ ((∀ t, t < 4096 → (obit σ (sF σ n) t) = true → (bt (sW σ n) t) = false → (bt (sW σ h) t) = true) ∧ (∃ t, t < 4096 ∧ (((bt (sW σ n) t) = true ∧ (obit σ (sF σ n) t) = false ∧ (bt (sW σ h) t) = false) ∨ ((obit σ (sF σ n) t) = true ∧ (bt (sW σ n) t) = false ∧ (bt (sW σ h) t) = true))))))) ([.ref (μ 0), .int (nI h), .int (nI n)] : List Value).toArray s 0 0 (kF b0)) (F0 m 139 ls [.int (b2i ((ca && (!(obit σ (sF σ n) i && !(bt (sW σ n) i)) || bt (sW σ h) i))))]) → W p l e (headSpec wsX4_lay ({ frames := 1, cells := 0, slots := 0, locals := 22 } : Room)).room s m ([.ref (μ 0), .int (nI h), .int (nI n)] : List Value).toArray below meth c H1 locs1 0 0 (MQ below (kI (fun r H1 => ∃ (ok : Bool) (h1 : Nat → Int32), r = b2i ok ∧ MC D g b0 μ (sV σ) (sB σ) nC (va_up x 7 h1) H1 ∧ MFr μ H H1 ∧ (∀ t, t < 4096 → h1 t = b2i ((bt (sW σ n) t && !(obit σ (sF σ n) t)) || (bt (sW σ h) t && !(obit σ (sF σ n) t && !(bt (sW σ n) t))))) ∧ (ok = true ↔ ((∀ t, t < 4096 → (obit σ (sF σ n) t) = true → (bt (sW σ n) t) = false → (bt (sW σ h) t) = true) ∧ (∃ t, t < 4096 ∧ (((bt (sW σ n) t) = true ∧ (obit σ (sF σ n) t) = false ∧ (bt (sW σ h) t) = false) ∨ ((obit σ (sF σ n) t) = true ∧ (bt (sW σ n) t) = false ∧ (bt (sW σ h) t) = true))))))) ([.ref (μ 0), .int (nI h), .int (nI n)] : List Value).toArray s 0 0 (kF b0)) (F0 m 119 ls []) := by
          intro ls hl hk
          refine lv_iload hx hb dX4_lay_119 (lv_at hl 7 rfl) ?_
          refine z_if_eq (tgt := 138) hx hb dX4_lay_121 (by decide) (fun c_682 => ?_) (fun c_682 => ?_)
          · skip
            refine lv_iconst (v := b2i false) hx hb dX4_lay_138 (by decide +kernel) ?_
            have e : ((ca && (!(obit σ (sF σ n) i && !(bt (sW σ n) i)) || bt (sW σ h) i))) = false := by
              revert c_682
              cases (bt (sW σ n) i) <;> cases (obit σ (sF σ n) i) <;> cases (bt (sW σ h) i) <;> cases (ca) <;> simp
            rw [e] at hk
            exact hk
          · skip
            refine lv_iload hx hb dX4_lay_124 (lv_at hl 0 rfl) ?_
            refine z_if_eq (tgt := 134) hx hb dX4_lay_126 (by decide) (fun c_683 => ?_) (fun c_683 => ?_)
            · skip
              refine lv_iconst (v := b2i true) hx hb dX4_lay_134 (by decide +kernel) ?_
              refine lv_goto (tgt := 139) hx hb dX4_lay_135 (by decide) ?_
              have e : ((ca && (!(obit σ (sF σ n) i && !(bt (sW σ n) i)) || bt (sW σ h) i))) = true := by
                revert c_682 c_683
                cases (bt (sW σ n) i) <;> cases (obit σ (sF σ n) i) <;> cases (bt (sW σ h) i) <;> cases (ca) <;> simp
              rw [e] at hk
              exact hk
            · skip
              refine lv_iload hx hb dX4_lay_129 (lv_at hl 2 rfl) ?_
              refine z_if_eq (tgt := 138) hx hb dX4_lay_131 (by decide) (fun c_684 => ?_) (fun c_684 => ?_)
              · skip
                refine lv_iconst (v := b2i false) hx hb dX4_lay_138 (by decide +kernel) ?_
                have e : ((ca && (!(obit σ (sF σ n) i && !(bt (sW σ n) i)) || bt (sW σ h) i))) = false := by
                  revert c_682 c_683 c_684
                  cases (bt (sW σ n) i) <;> cases (obit σ (sF σ n) i) <;> cases (bt (sW σ h) i) <;> cases (ca) <;> simp
                rw [e] at hk
                exact hk
              · skip
                refine lv_iconst (v := b2i true) hx hb dX4_lay_134 (by decide +kernel) ?_
                refine lv_goto (tgt := 139) hx hb dX4_lay_135 (by decide) ?_
                have e : ((ca && (!(obit σ (sF σ n) i && !(bt (sW σ n) i)) || bt (sW σ h) i))) = true := by
                  revert c_682 c_683 c_684
                  cases (bt (sW σ n) i) <;> cases (obit σ (sF σ n) i) <;> cases (bt (sW σ h) i) <;> cases (ca) <;> simp
                rw [e] at hk
                exact hk
        refine seg_681 ls hl ?_
        refine lv_istore (lv' := [(4, .int (b2i ((ca && (!(obit σ (sF σ n) i && !(bt (sW σ n) i)) || bt (sW σ h) i))))), (11, .int (b2i ((obit σ (sF σ n) i && !(bt (sW σ n) i))))), (10, .int (b2i ((bt (sW σ n) i && !(obit σ (sF σ n) i))))), (9, .int (b2i (bt (sW σ h) i))), (8, .int (b2i (obit σ (sF σ n) i))), (7, .int (b2i (bt (sW σ n) i))), (6, .int (nI i)), (5, .int (b2i ch)), (3, .int (nI n)), (0, .ref (μ 0)), (1, .int (nI h)), (2, .int (nI n))]) hx hb dX4_lay_139 hl (by decide) rfl (fun ls hl => ?_)
        have seg_685 : ∀ ls, lv_has ls 12 [(4, .int (b2i ((ca && (!(obit σ (sF σ n) i && !(bt (sW σ n) i)) || bt (sW σ h) i))))), (11, .int (b2i ((obit σ (sF σ n) i && !(bt (sW σ n) i))))), (10, .int (b2i ((bt (sW σ n) i && !(obit σ (sF σ n) i))))), (9, .int (b2i (bt (sW σ h) i))), (8, .int (b2i (obit σ (sF σ n) i))), (7, .int (b2i (bt (sW σ n) i))), (6, .int (nI i)), (5, .int (b2i ch)), (3, .int (nI n)), (0, .ref (μ 0)), (1, .int (nI h)), (2, .int (nI n))] → W p l e (headSpec wsX4_lay ({ frames := 1, cells := 0, slots := 0, locals := 22 } : Room)).room s m ([.ref (μ 0), .int (nI h), .int (nI n)] : List Value).toArray below meth c H1 locs1 0 0 (MQ below (kI (fun r H1 => ∃ (ok : Bool) (h1 : Nat → Int32), r = b2i ok ∧ MC D g b0 μ (sV σ) (sB σ) nC (va_up x 7 h1) H1 ∧ MFr μ H H1 ∧ (∀ t, t < 4096 → h1 t = b2i ((bt (sW σ n) t && !(obit σ (sF σ n) t)) || (bt (sW σ h) t && !(obit σ (sF σ n) t && !(bt (sW σ n) t))))) ∧ (ok = true ↔ ((∀ t, t < 4096 → (obit σ (sF σ n) t) = true → (bt (sW σ n) t) = false → (bt (sW σ h) t) = true) ∧ (∃ t, t < 4096 ∧ (((bt (sW σ n) t) = true ∧ (obit σ (sF σ n) t) = false ∧ (bt (sW σ h) t) = false) ∨ ((obit σ (sF σ n) t) = true ∧ (bt (sW σ n) t) = false ∧ (bt (sW σ h) t) = true))))))) ([.ref (μ 0), .int (nI h), .int (nI n)] : List Value).toArray s 0 0 (kF b0)) (F0 m 171 ls [.int (b2i ((ch || ((bt (sW σ n) i && !(obit σ (sF σ n) i)) && !(bt (sW σ h) i)) || ((obit σ (sF σ n) i && !(bt (sW σ n) i)) && bt (sW σ h) i))))]) → W p l e (headSpec wsX4_lay ({ frames := 1, cells := 0, slots := 0, locals := 22 } : Room)).room s m ([.ref (μ 0), .int (nI h), .int (nI n)] : List Value).toArray below meth c H1 locs1 0 0 (MQ below (kI (fun r H1 => ∃ (ok : Bool) (h1 : Nat → Int32), r = b2i ok ∧ MC D g b0 μ (sV σ) (sB σ) nC (va_up x 7 h1) H1 ∧ MFr μ H H1 ∧ (∀ t, t < 4096 → h1 t = b2i ((bt (sW σ n) t && !(obit σ (sF σ n) t)) || (bt (sW σ h) t && !(obit σ (sF σ n) t && !(bt (sW σ n) t))))) ∧ (ok = true ↔ ((∀ t, t < 4096 → (obit σ (sF σ n) t) = true → (bt (sW σ n) t) = false → (bt (sW σ h) t) = true) ∧ (∃ t, t < 4096 ∧ (((bt (sW σ n) t) = true ∧ (obit σ (sF σ n) t) = false ∧ (bt (sW σ h) t) = false) ∨ ((obit σ (sF σ n) t) = true ∧ (bt (sW σ n) t) = false ∧ (bt (sW σ h) t) = true))))))) ([.ref (μ 0), .int (nI h), .int (nI n)] : List Value).toArray s 0 0 (kF b0)) (F0 m 141 ls []) := by
          intro ls hl hk
          refine lv_iload hx hb dX4_lay_141 (lv_at hl 7 rfl) ?_
          refine z_if_ne (tgt := 166) hx hb dX4_lay_143 (by decide) (fun c_686 => ?_) (fun c_686 => ?_)
          · skip
            refine lv_iconst (v := b2i true) hx hb dX4_lay_166 (by decide +kernel) ?_
            refine lv_goto (tgt := 171) hx hb dX4_lay_167 (by decide) ?_
            have e : ((ch || ((bt (sW σ n) i && !(obit σ (sF σ n) i)) && !(bt (sW σ h) i)) || ((obit σ (sF σ n) i && !(bt (sW σ n) i)) && bt (sW σ h) i))) = true := by
              revert c_686
              cases (bt (sW σ n) i) <;> cases (obit σ (sF σ n) i) <;> cases (bt (sW σ h) i) <;> cases (ch) <;> simp
            rw [e] at hk
            exact hk
          · skip
            refine lv_iload hx hb dX4_lay_146 (lv_at hl 2 rfl) ?_
            refine z_if_eq (tgt := 156) hx hb dX4_lay_148 (by decide) (fun c_687 => ?_) (fun c_687 => ?_)
            · skip
              refine lv_iload hx hb dX4_lay_156 (lv_at hl 1 rfl) ?_
              refine z_if_eq (tgt := 170) hx hb dX4_lay_158 (by decide) (fun c_688 => ?_) (fun c_688 => ?_)
              · skip
                refine lv_iconst (v := b2i false) hx hb dX4_lay_170 (by decide +kernel) ?_
                have e : ((ch || ((bt (sW σ n) i && !(obit σ (sF σ n) i)) && !(bt (sW σ h) i)) || ((obit σ (sF σ n) i && !(bt (sW σ n) i)) && bt (sW σ h) i))) = false := by
                  revert c_686 c_687 c_688
                  cases (bt (sW σ n) i) <;> cases (obit σ (sF σ n) i) <;> cases (bt (sW σ h) i) <;> cases (ch) <;> simp
                rw [e] at hk
                exact hk
              · skip
                refine lv_iload hx hb dX4_lay_161 (lv_at hl 3 rfl) ?_
                refine z_if_eq (tgt := 170) hx hb dX4_lay_163 (by decide) (fun c_689 => ?_) (fun c_689 => ?_)
                · skip
                  refine lv_iconst (v := b2i false) hx hb dX4_lay_170 (by decide +kernel) ?_
                  have e : ((ch || ((bt (sW σ n) i && !(obit σ (sF σ n) i)) && !(bt (sW σ h) i)) || ((obit σ (sF σ n) i && !(bt (sW σ n) i)) && bt (sW σ h) i))) = false := by
                    revert c_686 c_687 c_688 c_689
                    cases (bt (sW σ n) i) <;> cases (obit σ (sF σ n) i) <;> cases (bt (sW σ h) i) <;> cases (ch) <;> simp
                  rw [e] at hk
                  exact hk
                · skip
                  refine lv_iconst (v := b2i true) hx hb dX4_lay_166 (by decide +kernel) ?_
                  refine lv_goto (tgt := 171) hx hb dX4_lay_167 (by decide) ?_
                  have e : ((ch || ((bt (sW σ n) i && !(obit σ (sF σ n) i)) && !(bt (sW σ h) i)) || ((obit σ (sF σ n) i && !(bt (sW σ n) i)) && bt (sW σ h) i))) = true := by
                    revert c_686 c_687 c_688 c_689
                    cases (bt (sW σ n) i) <;> cases (obit σ (sF σ n) i) <;> cases (bt (sW σ h) i) <;> cases (ch) <;> simp
                  rw [e] at hk
                  exact hk
            · skip
              refine lv_iload hx hb dX4_lay_151 (lv_at hl 3 rfl) ?_
              refine z_if_eq (tgt := 166) hx hb dX4_lay_153 (by decide) (fun c_690 => ?_) (fun c_690 => ?_)
              · skip
                refine lv_iconst (v := b2i true) hx hb dX4_lay_166 (by decide +kernel) ?_
                refine lv_goto (tgt := 171) hx hb dX4_lay_167 (by decide) ?_
                have e : ((ch || ((bt (sW σ n) i && !(obit σ (sF σ n) i)) && !(bt (sW σ h) i)) || ((obit σ (sF σ n) i && !(bt (sW σ n) i)) && bt (sW σ h) i))) = true := by
                  revert c_686 c_687 c_690
                  cases (bt (sW σ n) i) <;> cases (obit σ (sF σ n) i) <;> cases (bt (sW σ h) i) <;> cases (ch) <;> simp
                rw [e] at hk
                exact hk
              · skip
                refine lv_iload hx hb dX4_lay_156 (lv_at hl 1 rfl) ?_
                refine z_if_eq (tgt := 170) hx hb dX4_lay_158 (by decide) (fun c_691 => ?_) (fun c_691 => ?_)
                · skip
                  refine lv_iconst (v := b2i false) hx hb dX4_lay_170 (by decide +kernel) ?_
                  have e : ((ch || ((bt (sW σ n) i && !(obit σ (sF σ n) i)) && !(bt (sW σ h) i)) || ((obit σ (sF σ n) i && !(bt (sW σ n) i)) && bt (sW σ h) i))) = false := by
                    revert c_686 c_687 c_690 c_691
                    cases (bt (sW σ n) i) <;> cases (obit σ (sF σ n) i) <;> cases (bt (sW σ h) i) <;> cases (ch) <;> simp
                  rw [e] at hk
                  exact hk
                · skip
                  refine lv_iload hx hb dX4_lay_161 (lv_at hl 3 rfl) ?_
                  refine z_if_eq (tgt := 170) hx hb dX4_lay_163 (by decide) (fun c_692 => ?_) (fun c_692 => ?_)
                  · skip
                    refine lv_iconst (v := b2i false) hx hb dX4_lay_170 (by decide +kernel) ?_
                    have e : ((ch || ((bt (sW σ n) i && !(obit σ (sF σ n) i)) && !(bt (sW σ h) i)) || ((obit σ (sF σ n) i && !(bt (sW σ n) i)) && bt (sW σ h) i))) = false := by
                      revert c_686 c_687 c_690 c_691 c_692
                      cases (bt (sW σ n) i) <;> cases (obit σ (sF σ n) i) <;> cases (bt (sW σ h) i) <;> cases (ch) <;> simp
                    rw [e] at hk
                    exact hk
                  · skip
                    refine lv_iconst (v := b2i true) hx hb dX4_lay_166 (by decide +kernel) ?_
                    refine lv_goto (tgt := 171) hx hb dX4_lay_167 (by decide) ?_
                    have e : ((ch || ((bt (sW σ n) i && !(obit σ (sF σ n) i)) && !(bt (sW σ h) i)) || ((obit σ (sF σ n) i && !(bt (sW σ n) i)) && bt (sW σ h) i))) = true := by
                      revert c_686 c_687 c_690 c_691 c_692
                      cases (bt (sW σ n) i) <;> cases (obit σ (sF σ n) i) <;> cases (bt (sW σ h) i) <;> cases (ch) <;> simp
                    rw [e] at hk
                    exact hk
        refine seg_685 ls hl ?_
        refine lv_istore (lv' := [(5, .int (b2i ((ch || ((bt (sW σ n) i && !(obit σ (sF σ n) i)) && !(bt (sW σ h) i)) || ((obit σ (sF σ n) i && !(bt (sW σ n) i)) && bt (sW σ h) i))))), (4, .int (b2i ((ca && (!(obit σ (sF σ n) i && !(bt (sW σ n) i)) || bt (sW σ h) i))))), (11, .int (b2i ((obit σ (sF σ n) i && !(bt (sW σ n) i))))), (10, .int (b2i ((bt (sW σ n) i && !(obit σ (sF σ n) i))))), (9, .int (b2i (bt (sW σ h) i))), (8, .int (b2i (obit σ (sF σ n) i))), (7, .int (b2i (bt (sW σ n) i))), (6, .int (nI i)), (3, .int (nI n)), (0, .ref (μ 0)), (1, .int (nI h)), (2, .int (nI n))]) hx hb dX4_lay_171 hl (by decide) rfl (fun ls hl => ?_)
        refine lv_aload_n hx hb dX4_lay_173 rfl (lv_at hl 9 rfl) ?_
        refine k_get (ci := 4) (C := RX4) (T := TX4) (N := 13) (v := .ref (μ 7)) hx hb hts (by decide +kernel) hown hK hM1.o rfl 8 (by decide) rfl (hts (.fieldLink RX4 31 RX4 "hand" "[B") (by decide +kernel)) rfl dX4_lay_174 ?_
        refine lv_iload hx hb dX4_lay_177 (lv_at hl 7 rfl) ?_
        have seg_693 : ∀ ls, lv_has ls 12 [(5, .int (b2i ((ch || ((bt (sW σ n) i && !(obit σ (sF σ n) i)) && !(bt (sW σ h) i)) || ((obit σ (sF σ n) i && !(bt (sW σ n) i)) && bt (sW σ h) i))))), (4, .int (b2i ((ca && (!(obit σ (sF σ n) i && !(bt (sW σ n) i)) || bt (sW σ h) i))))), (11, .int (b2i ((obit σ (sF σ n) i && !(bt (sW σ n) i))))), (10, .int (b2i ((bt (sW σ n) i && !(obit σ (sF σ n) i))))), (9, .int (b2i (bt (sW σ h) i))), (8, .int (b2i (obit σ (sF σ n) i))), (7, .int (b2i (bt (sW σ n) i))), (6, .int (nI i)), (3, .int (nI n)), (0, .ref (μ 0)), (1, .int (nI h)), (2, .int (nI n))] → W p l e (headSpec wsX4_lay ({ frames := 1, cells := 0, slots := 0, locals := 22 } : Room)).room s m ([.ref (μ 0), .int (nI h), .int (nI n)] : List Value).toArray below meth c H1 locs1 0 0 (MQ below (kI (fun r H1 => ∃ (ok : Bool) (h1 : Nat → Int32), r = b2i ok ∧ MC D g b0 μ (sV σ) (sB σ) nC (va_up x 7 h1) H1 ∧ MFr μ H H1 ∧ (∀ t, t < 4096 → h1 t = b2i ((bt (sW σ n) t && !(obit σ (sF σ n) t)) || (bt (sW σ h) t && !(obit σ (sF σ n) t && !(bt (sW σ n) t))))) ∧ (ok = true ↔ ((∀ t, t < 4096 → (obit σ (sF σ n) t) = true → (bt (sW σ n) t) = false → (bt (sW σ h) t) = true) ∧ (∃ t, t < 4096 ∧ (((bt (sW σ n) t) = true ∧ (obit σ (sF σ n) t) = false ∧ (bt (sW σ h) t) = false) ∨ ((obit σ (sF σ n) t) = true ∧ (bt (sW σ n) t) = false ∧ (bt (sW σ h) t) = true))))))) ([.ref (μ 0), .int (nI h), .int (nI n)] : List Value).toArray s 0 0 (kF b0)) (F0 m 199 ls [.int (b2i (((bt (sW σ n) i && !(obit σ (sF σ n) i)) || (bt (sW σ h) i && !(obit σ (sF σ n) i && !(bt (sW σ n) i)))))), .int (nI i), .ref (μ 7)]) → W p l e (headSpec wsX4_lay ({ frames := 1, cells := 0, slots := 0, locals := 22 } : Room)).room s m ([.ref (μ 0), .int (nI h), .int (nI n)] : List Value).toArray below meth c H1 locs1 0 0 (MQ below (kI (fun r H1 => ∃ (ok : Bool) (h1 : Nat → Int32), r = b2i ok ∧ MC D g b0 μ (sV σ) (sB σ) nC (va_up x 7 h1) H1 ∧ MFr μ H H1 ∧ (∀ t, t < 4096 → h1 t = b2i ((bt (sW σ n) t && !(obit σ (sF σ n) t)) || (bt (sW σ h) t && !(obit σ (sF σ n) t && !(bt (sW σ n) t))))) ∧ (ok = true ↔ ((∀ t, t < 4096 → (obit σ (sF σ n) t) = true → (bt (sW σ n) t) = false → (bt (sW σ h) t) = true) ∧ (∃ t, t < 4096 ∧ (((bt (sW σ n) t) = true ∧ (obit σ (sF σ n) t) = false ∧ (bt (sW σ h) t) = false) ∨ ((obit σ (sF σ n) t) = true ∧ (bt (sW σ n) t) = false ∧ (bt (sW σ h) t) = true))))))) ([.ref (μ 0), .int (nI h), .int (nI n)] : List Value).toArray s 0 0 (kF b0)) (F0 m 179 ls [.int (nI i), .ref (μ 7)]) := by
          intro ls hl hk
          refine lv_iload hx hb dX4_lay_179 (lv_at hl 3 rfl) ?_
          refine z_if_ne (tgt := 194) hx hb dX4_lay_181 (by decide) (fun c_694 => ?_) (fun c_694 => ?_)
          · skip
            refine lv_iconst (v := b2i true) hx hb dX4_lay_194 (by decide +kernel) ?_
            refine lv_goto (tgt := 199) hx hb dX4_lay_195 (by decide) ?_
            have e : (((bt (sW σ n) i && !(obit σ (sF σ n) i)) || (bt (sW σ h) i && !(obit σ (sF σ n) i && !(bt (sW σ n) i))))) = true := by
              revert c_694
              cases (bt (sW σ n) i) <;> cases (obit σ (sF σ n) i) <;> cases (bt (sW σ h) i) <;> simp
            rw [e] at hk
            exact hk
          · skip
            refine lv_iload hx hb dX4_lay_184 (lv_at hl 4 rfl) ?_
            refine z_if_eq (tgt := 198) hx hb dX4_lay_186 (by decide) (fun c_695 => ?_) (fun c_695 => ?_)
            · skip
              refine lv_iconst (v := b2i false) hx hb dX4_lay_198 (by decide +kernel) ?_
              have e : (((bt (sW σ n) i && !(obit σ (sF σ n) i)) || (bt (sW σ h) i && !(obit σ (sF σ n) i && !(bt (sW σ n) i))))) = false := by
                revert c_694 c_695
                cases (bt (sW σ n) i) <;> cases (obit σ (sF σ n) i) <;> cases (bt (sW σ h) i) <;> simp
              rw [e] at hk
              exact hk
            · skip
              refine lv_iload hx hb dX4_lay_189 (lv_at hl 2 rfl) ?_
              refine z_if_ne (tgt := 198) hx hb dX4_lay_191 (by decide) (fun c_696 => ?_) (fun c_696 => ?_)
              · skip
                refine lv_iconst (v := b2i false) hx hb dX4_lay_198 (by decide +kernel) ?_
                have e : (((bt (sW σ n) i && !(obit σ (sF σ n) i)) || (bt (sW σ h) i && !(obit σ (sF σ n) i && !(bt (sW σ n) i))))) = false := by
                  revert c_694 c_695 c_696
                  cases (bt (sW σ n) i) <;> cases (obit σ (sF σ n) i) <;> cases (bt (sW σ h) i) <;> simp
                rw [e] at hk
                exact hk
              · skip
                refine lv_iconst (v := b2i true) hx hb dX4_lay_194 (by decide +kernel) ?_
                refine lv_goto (tgt := 199) hx hb dX4_lay_195 (by decide) ?_
                have e : (((bt (sW σ n) i && !(obit σ (sF σ n) i)) || (bt (sW σ h) i && !(obit σ (sF σ n) i && !(bt (sW σ n) i))))) = true := by
                  revert c_694 c_695 c_696
                  cases (bt (sW σ n) i) <;> cases (obit σ (sF σ n) i) <;> cases (bt (sW σ h) i) <;> simp
                rw [e] at hk
                exact hk
        refine seg_693 ls hl ?_
        refine lv_i2b (v := b2i (((bt (sW σ n) i && !(obit σ (sF σ n) i)) || (bt (sW σ h) i && !(obit σ (sF σ n) i && !(bt (sW σ n) i)))))) hx hb dX4_lay_199 (b2i_b _) ?_
        refine k_bast (y := b2i (((bt (sW σ n) i && !(obit σ (sF σ n) i)) || (bt (sW σ h) i && !(obit σ (sF σ n) i && !(bt (sW σ n) i)))))) hx hb hK hM1.a7 hLB (hM1.ge (by omega)) (i) rfl (by omega) (by omega) (b2i_y _) dX4_lay_200 (fun H_697 locs_698 hw_699 hC_700 hLB_701 => ?_)
        have hM_702 := hM1.set (c := 7) (by omega) (by omega) (f := (upd ((va_up x 7 h1) 7) (i) (b2i (((bt (sW σ n) i && !(obit σ (sF σ n) i)) || (bt (sW σ h) i && !(obit σ (sF σ n) i && !(bt (sW σ n) i)))))))) hw_699 hC_700
        refine lv_iinc (v := nI (i + 1)) (lv' := [(6, .int (nI (i + 1))), (5, .int (b2i ((ch || ((bt (sW σ n) i && !(obit σ (sF σ n) i)) && !(bt (sW σ h) i)) || ((obit σ (sF σ n) i && !(bt (sW σ n) i)) && bt (sW σ h) i))))), (4, .int (b2i ((ca && (!(obit σ (sF σ n) i && !(bt (sW σ n) i)) || bt (sW σ h) i))))), (11, .int (b2i ((obit σ (sF σ n) i && !(bt (sW σ n) i))))), (10, .int (b2i ((bt (sW σ n) i && !(obit σ (sF σ n) i))))), (9, .int (b2i (bt (sW σ h) i))), (8, .int (b2i (obit σ (sF σ n) i))), (7, .int (b2i (bt (sW σ n) i))), (3, .int (nI n)), (0, .ref (μ 0)), (1, .int (nI h)), (2, .int (nI n))]) hx hb dX4_lay_201 hl (k := 7) rfl (nI_add (i) 1) (by decide) rfl (fun ls hl => ?_)
        refine lv_goto (tgt := 21) hx hb dX4_lay_204 (by decide) ?_
        have hM2 : MC D g b0 μ (sV σ) (sB σ) nC (va_up x 7 (upd h1 i (b2i ((bt (sW σ n) i && !(obit σ (sF σ n) i)) || (bt (sW σ h) i && !(obit σ (sF σ n) i && !(bt (sW σ n) i))))))) H_697 := by
          have q := hM_702
          rw [up_eq, bx_uu] at q
          exact q
        refine ih (i + 1) H_697 locs_698 _ _ _ (by omega) (by omega) hM2 (hF.tr (MFr.chg (by omega) hC_700)) hLB_701 ?_ ?_ ?_ ls (lv_sub hl [0, 1, 2, 8, 9, 10, 11] rfl)
        · intro t ht
          by_cases e : t = i
          · subst e; rw [pk_us]
          · rw [pk_un e]; exact hv t (by omega)
        · rw [Bool.and_eq_true, hca]
          constructor
          · rintro ⟨q1, q2⟩ t ht f1 f2
            rcases Nat.lt_or_ge t i with z | z
            · exact q1 t z f1 f2
            · obtain rfl : t = i := by omega
              rw [f1, f2] at q2
              simpa using q2
          · intro q
            refine ⟨fun t ht => q t (by omega), ?_⟩
            have q3 := q i (by omega)
            revert q3
            cases (obit σ (sF σ n) i) <;> cases (bt (sW σ n) i) <;> cases (bt (sW σ h) i) <;> simp
        · rw [Bool.or_eq_true, Bool.or_eq_true, hch]
          constructor
          · rintro ((⟨t, t1, t2⟩ | q) | q)
            · exact ⟨t, by omega, t2⟩
            · refine ⟨i, by omega, Or.inl ?_⟩
              revert q
              cases (obit σ (sF σ n) i) <;> cases (bt (sW σ n) i) <;> cases (bt (sW σ h) i) <;> simp
            · refine ⟨i, by omega, Or.inr ?_⟩
              revert q
              cases (obit σ (sF σ n) i) <;> cases (bt (sW σ n) i) <;> cases (bt (sW σ h) i) <;> simp
          · rintro ⟨t, t1, t2⟩
            rcases Nat.lt_or_ge t i with z | z
            · exact Or.inl (Or.inl ⟨t, z, t2⟩)
            · obtain rfl : t = i := by omega
              rcases t2 with ⟨y1, y2, y3⟩ | ⟨y1, y2, y3⟩
              · exact Or.inl (Or.inr (by rw [y1, y2, y3]; rfl))
              · exact Or.inr (by rw [y1, y2, y3]; rfl)
  exact loop 4097 0 H [] (x 7) true false (by omega) (by omega) (by rw [up_self]; exact hM) MFr.rf LB.nil (fun t h => by omega) ⟨fun _ t h => absurd h (Nat.not_lt_zero _), fun _ => rfl⟩ ⟨fun z => (by cases z), fun ⟨t, h, _⟩ => absurd h (Nat.not_lt_zero _)⟩ ls (lv_sub hl [0, 1, 2, 3, 4, 5, 6] rfl)
set_option maxHeartbeats 4000000 in
set_option maxRecDepth 100000 in
/-- lay(h, -1 - n) -/
theorem c_X4_lay_1 (l : Launch) (D : va_G) (g : Nat → ClassId) (b0 : Nat) (H : Heap) (μ : Nat → Nat) (σ : SG) (nC : Nat) (x : Nat → Nat → Int32) (hM : MC D g b0 μ (sV σ) (sB σ) nC x H) (hR : MR σ x) (hC4 : nC ≤ 64) (h n : Nat) (hh4 : h < sV σ) (hn : n < sV σ) : Met l yX4_lay wsX4_lay ({ frames := 1, cells := 0, slots := 0, locals := 22 } : Room) (kPc D g [.ref (μ 0), .int (nI h), .int ((-1) - nI n)] H) (kI (fun r H1 => ∃ (ok : Bool) (h1 : Nat → Int32), r = b2i ok ∧ MC D g b0 μ (sV σ) (sB σ) nC (va_up x 7 h1) H1 ∧ MFr μ H H1 ∧ (∀ t, t < 4096 → h1 t = b2i ((obit σ (sF σ n) t && !(bt (sW σ n) t)) || (bt (sW σ h) t && !(bt (sW σ n) t && !(obit σ (sF σ n) t))))) ∧ (ok = true ↔ ((∀ t, t < 4096 → (bt (sW σ n) t) = true → (obit σ (sF σ n) t) = false → (bt (sW σ h) t) = true) ∧ (∃ t, t < 4096 ∧ (((obit σ (sF σ n) t) = true ∧ (bt (sW σ n) t) = false ∧ (bt (sW σ h) t) = false) ∨ ((bt (sW σ n) t) = true ∧ (obit σ (sF σ n) t) = false ∧ (bt (sW σ h) t) = true))))))) 0 0 (kF b0) := by
  refine Met.ofW (cc := cX4_lay) (maxL := 12) (ret := (some .boolean)) (by decide) rfl ?_
  intro p e s m args below meth c s₁ B hml hv
  obtain ⟨rfl, hH, hK⟩ := hv
  have hx := B.exec
  have hb := B.bytes
  have hr := B.returns
  have hts := atoms_spec (ws := wsX4_lay) B.pre
  have hown : s.vm.findClass RX4 = some m.cls := findClass_of_methodNamed B.named
  have hlocks := B.notSynchronized
  rw [hH]
  have hl := lv_entry ([.ref (μ 0), .int (nI h), .int ((-1) - nI n)]) (n := 12) (Nat.le_of_ble_eq_true rfl)
  rw [lg_entry_eq]
  generalize (lg_sl ([.ref (μ 0), .int (nI h), .int ((-1) - nI n)]) ++ List.replicate (12 - (lg_sl ([.ref (μ 0), .int (nI h), .int ((-1) - nI n)])).length) Slot.unset).toArray = ls at hl ⊢
  have hl : lv_has ls 12 [(0, .ref (μ 0)), (1, .int (nI h)), (2, .int ((-1) - nI n))] := hl
  have hWF := hR.1
  have hV4 : sV σ ≤ 400 := hWF.2.1
  have hB4 : sB σ ≤ 40 := hWF.2.2.2.1
  have hfo : OLt (sF σ n) (sV σ) := fun p hp => Nat.lt_trans ((hWF.2.2.2.2.2 n hn).1 p hp) hn
  refine lv_iload_n hx hb dX4_lay_0 rfl (lv_at hl 2 rfl) ?_
  refine lv_if_ge (tgt := 10) hx hb dX4_lay_1 (by decide) (fun q => absurd (neg_lt (k := n) (by omega)) (Int32.not_lt.mpr q)) (fun _ => ?_)
  refine lv_iconst (v := (-1)) hx hb dX4_lay_4 (by decide +kernel) ?_
  refine lv_iload_n hx hb dX4_lay_5 rfl (lv_at hl 2 rfl) ?_
  refine lv_isub hx hb dX4_lay_6 ?_
  rw [neg_neg1]
  refine lv_goto (tgt := 11) hx hb dX4_lay_7 (by decide) ?_
  refine lv_istore_n (lv' := [(3, .int (nI n)), (0, .ref (μ 0)), (1, .int (nI h)), (2, .int ((-1) - nI n))]) hx hb dX4_lay_11 rfl hl (by decide) rfl (fun ls hl => ?_)
  refine lv_iconst (v := b2i true) hx hb dX4_lay_12 (by decide +kernel) ?_
  refine lv_istore (lv' := [(4, .int (b2i true)), (3, .int (nI n)), (0, .ref (μ 0)), (1, .int (nI h)), (2, .int ((-1) - nI n))]) hx hb dX4_lay_13 hl (by decide) rfl (fun ls hl => ?_)
  refine lv_iconst (v := b2i false) hx hb dX4_lay_15 (by decide +kernel) ?_
  refine lv_istore (lv' := [(5, .int (b2i false)), (4, .int (b2i true)), (3, .int (nI n)), (0, .ref (μ 0)), (1, .int (nI h)), (2, .int ((-1) - nI n))]) hx hb dX4_lay_16 hl (by decide) rfl (fun ls hl => ?_)
  refine lv_iconst (v := nI 0) hx hb dX4_lay_18 (by decide +kernel) ?_
  refine lv_istore (lv' := [(6, .int (nI 0)), (5, .int (b2i false)), (4, .int (b2i true)), (3, .int (nI n)), (0, .ref (μ 0)), (1, .int (nI h)), (2, .int ((-1) - nI n))]) hx hb dX4_lay_19 hl (by decide) rfl (fun ls hl => ?_)
  have loop : ∀ (N i : Nat) (H1 : Heap) (locs1 : List Loc) (h1 : Nat → Int32) (ca ch : Bool), 4096 < i + N → i ≤ 4096 → MC D g b0 μ (sV σ) (sB σ) nC (va_up x 7 h1) H1 → MFr μ H H1 → LB b0 locs1 → (∀ t, t < i → h1 t = b2i ((obit σ (sF σ n) t && !(bt (sW σ n) t)) || (bt (sW σ h) t && !(bt (sW σ n) t && !(obit σ (sF σ n) t))))) → (ca = true ↔ (∀ t, t < i → (bt (sW σ n) t) = true → (obit σ (sF σ n) t) = false → (bt (sW σ h) t) = true)) → (ch = true ↔ (∃ t, t < i ∧ (((obit σ (sF σ n) t) = true ∧ (bt (sW σ n) t) = false ∧ (bt (sW σ h) t) = false) ∨ ((bt (sW σ n) t) = true ∧ (obit σ (sF σ n) t) = false ∧ (bt (sW σ h) t) = true)))) → ∀ ls, lv_has ls 12 [(6, .int (nI i)), (5, .int (b2i ch)), (4, .int (b2i ca)), (3, .int (nI n)), (0, .ref (μ 0)), (1, .int (nI h)), (2, .int ((-1) - nI n))] → W p l e (headSpec wsX4_lay ({ frames := 1, cells := 0, slots := 0, locals := 22 } : Room)).room s m ([.ref (μ 0), .int (nI h), .int ((-1) - nI n)] : List Value).toArray below meth c H1 locs1 0 0 (MQ below (kI (fun r H1 => ∃ (ok : Bool) (h1 : Nat → Int32), r = b2i ok ∧ MC D g b0 μ (sV σ) (sB σ) nC (va_up x 7 h1) H1 ∧ MFr μ H H1 ∧ (∀ t, t < 4096 → h1 t = b2i ((obit σ (sF σ n) t && !(bt (sW σ n) t)) || (bt (sW σ h) t && !(bt (sW σ n) t && !(obit σ (sF σ n) t))))) ∧ (ok = true ↔ ((∀ t, t < 4096 → (bt (sW σ n) t) = true → (obit σ (sF σ n) t) = false → (bt (sW σ h) t) = true) ∧ (∃ t, t < 4096 ∧ (((obit σ (sF σ n) t) = true ∧ (bt (sW σ n) t) = false ∧ (bt (sW σ h) t) = false) ∨ ((bt (sW σ n) t) = true ∧ (obit σ (sF σ n) t) = false ∧ (bt (sW σ h) t) = true))))))) ([.ref (μ 0), .int (nI h), .int ((-1) - nI n)] : List Value).toArray s 0 0 (kF b0)) (F0 m 21 ls []) := by
    intro N
    induction N with
    | zero => intro i H1 locs1 h1 ca ch h0 h1; omega
    | succ N ih =>
      intro i H1 locs1 h1 ca ch hN hi hM1 hF hLB hv hca hch ls hl
      have hR1 := hR.up (c := 7) (by omega) h1
      refine lv_iload hx hb dX4_lay_21 (lv_at hl 0 rfl) ?_
      refine lv_sipush (v := nI 4096) hx hb dX4_lay_23 (by decide +kernel) ?_
      refine n_icmp_ge (tgt := 207) hx hb dX4_lay_26 (by decide) (by omega) (by omega) (fun c_703 => ?_) (fun c_703 => ?_)
      · skip
        have seg_704 : ∀ ls, lv_has ls 12 [(6, .int (nI i)), (5, .int (b2i ch)), (4, .int (b2i ca)), (3, .int (nI n)), (0, .ref (μ 0)), (1, .int (nI h)), (2, .int ((-1) - nI n))] → W p l e (headSpec wsX4_lay ({ frames := 1, cells := 0, slots := 0, locals := 22 } : Room)).room s m ([.ref (μ 0), .int (nI h), .int ((-1) - nI n)] : List Value).toArray below meth c H1 locs1 0 0 (MQ below (kI (fun r H1 => ∃ (ok : Bool) (h1 : Nat → Int32), r = b2i ok ∧ MC D g b0 μ (sV σ) (sB σ) nC (va_up x 7 h1) H1 ∧ MFr μ H H1 ∧ (∀ t, t < 4096 → h1 t = b2i ((obit σ (sF σ n) t && !(bt (sW σ n) t)) || (bt (sW σ h) t && !(bt (sW σ n) t && !(obit σ (sF σ n) t))))) ∧ (ok = true ↔ ((∀ t, t < 4096 → (bt (sW σ n) t) = true → (obit σ (sF σ n) t) = false → (bt (sW σ h) t) = true) ∧ (∃ t, t < 4096 ∧ (((obit σ (sF σ n) t) = true ∧ (bt (sW σ n) t) = false ∧ (bt (sW σ h) t) = false) ∨ ((bt (sW σ n) t) = true ∧ (obit σ (sF σ n) t) = false ∧ (bt (sW σ h) t) = true))))))) ([.ref (μ 0), .int (nI h), .int ((-1) - nI n)] : List Value).toArray s 0 0 (kF b0)) (F0 m 222 ls [.int (b2i ((ca && ch)))]) → W p l e (headSpec wsX4_lay ({ frames := 1, cells := 0, slots := 0, locals := 22 } : Room)).room s m ([.ref (μ 0), .int (nI h), .int ((-1) - nI n)] : List Value).toArray below meth c H1 locs1 0 0 (MQ below (kI (fun r H1 => ∃ (ok : Bool) (h1 : Nat → Int32), r = b2i ok ∧ MC D g b0 μ (sV σ) (sB σ) nC (va_up x 7 h1) H1 ∧ MFr μ H H1 ∧ (∀ t, t < 4096 → h1 t = b2i ((obit σ (sF σ n) t && !(bt (sW σ n) t)) || (bt (sW σ h) t && !(bt (sW σ n) t && !(obit σ (sF σ n) t))))) ∧ (ok = true ↔ ((∀ t, t < 4096 → (bt (sW σ n) t) = true → (obit σ (sF σ n) t) = false → (bt (sW σ h) t) = true) ∧ (∃ t, t < 4096 ∧ (((obit σ (sF σ n) t) = true ∧ (bt (sW σ n) t) = false ∧ (bt (sW σ h) t) = false) ∨ ((bt (sW σ n) t) = true ∧ (obit σ (sF σ n) t) = false ∧ (bt (sW σ h) t) = true))))))) ([.ref (μ 0), .int (nI h), .int ((-1) - nI n)] : List Value).toArray s 0 0 (kF b0)) (F0 m 207 ls []) := by
          intro ls hl hk
          refine lv_iload hx hb dX4_lay_207 (lv_at hl 2 rfl) ?_
          refine z_if_eq (tgt := 221) hx hb dX4_lay_209 (by decide) (fun c_705 => ?_) (fun c_705 => ?_)
          · skip
            refine lv_iconst (v := b2i false) hx hb dX4_lay_221 (by decide +kernel) ?_
            have e : ((ca && ch)) = false := by
              revert c_705
              cases (ca) <;> cases (ch) <;> simp
            rw [e] at hk
            exact hk
          · skip
            refine lv_iload hx hb dX4_lay_212 (lv_at hl 1 rfl) ?_
            refine z_if_eq (tgt := 221) hx hb dX4_lay_214 (by decide) (fun c_706 => ?_) (fun c_706 => ?_)
            · skip
              refine lv_iconst (v := b2i false) hx hb dX4_lay_221 (by decide +kernel) ?_
              have e : ((ca && ch)) = false := by
                revert c_705 c_706
                cases (ca) <;> cases (ch) <;> simp
              rw [e] at hk
              exact hk
            · skip
              refine lv_iconst (v := b2i true) hx hb dX4_lay_217 (by decide +kernel) ?_
              refine lv_goto (tgt := 222) hx hb dX4_lay_218 (by decide) ?_
              have e : ((ca && ch)) = true := by
                revert c_705 c_706
                cases (ca) <;> cases (ch) <;> simp
              rw [e] at hk
              exact hk
        refine seg_704 ls hl ?_
        exact r_zI hx hb hr hLB (Nat.le_refl _) (Nat.le_refl _) ⟨_, h1, rfl, hM1, hF, fun t ht => hv t (by omega), by rw [Bool.and_eq_true, hca, hch, show i = 4096 by omega]⟩ dX4_lay_222 hlocks
      · skip
        refine lv_aload_n hx hb dX4_lay_29 rfl (lv_at hl 4 rfl) ?_
        refine lv_iload_n hx hb dX4_lay_30 rfl (lv_at hl 3 rfl) ?_
        refine lv_iload hx hb dX4_lay_31 (lv_at hl 0 rfl) ?_
        refine k_callX (va_runV (As := [.int (nI n), .int (nI i)]) (rest := []) ⟨hx, hb, hml, hown, hts⟩ (c_X4_has l D g b0 H1 μ (sV σ) (sB σ) (nC) (va_up x 7 h1) hM1 (by omega) (by omega) (by omega) (some n) (i) (by omega) (bt (sW σ n) i) (hR1.has (o := some n) (fun p hp => by cases hp; exact hn) (by omega))) (cwV 2 hts gX4_lay_X4_has rfl rfl rfl (by decide +kernel) ⟨Nat.le_of_ble_eq_true rfl, Nat.le_of_ble_eq_true rfl⟩) ⟨kPc_blind, k_recv hK hM1.o rfl, fun U hU hW => kPc_at hK hU hW⟩ rfl rfl hl.1 rfl (lv_room (Nat.le_of_ble_eq_true rfl)) dX4_lay_33 ⟨Nat.le_of_ble_eq_true rfl, Nat.le_of_ble_eq_true rfl⟩) ?_
        refine lv_istore (lv' := [(7, .int (b2i (bt (sW σ n) i))), (6, .int (nI i)), (5, .int (b2i ch)), (4, .int (b2i ca)), (3, .int (nI n)), (0, .ref (μ 0)), (1, .int (nI h)), (2, .int ((-1) - nI n))]) hx hb dX4_lay_36 hl (by decide) rfl (fun ls hl => ?_)
        refine lv_aload_n hx hb dX4_lay_38 rfl (lv_at hl 5 rfl) ?_
        refine lv_aload_n hx hb dX4_lay_39 rfl (lv_at hl 5 rfl) ?_
        refine k_get (ci := 4) (C := RX4) (T := TX4) (N := 13) (v := .ref (μ 2)) hx hb hts (by decide +kernel) hown hK hM1.o rfl 1 (by decide) rfl (hts (.fieldLink RX4 14 RX4 "firsts" "[I") (by decide +kernel)) rfl dX4_lay_40 ?_
        refine lv_iload_n hx hb dX4_lay_43 rfl (lv_at hl 4 rfl) ?_
        refine k_iald hx hb hK hM1.a2 (n) rfl (by omega) (by omega) dX4_lay_44 ?_
        rw [show (va_up x 7 h1) 2 (n) = pI (sF σ n) from (hR.2.2.1 n hn)]
        refine lv_iload hx hb dX4_lay_45 (lv_at hl 1 rfl) ?_
        refine k_callX (va_runV (As := [.int (pI (sF σ n)), .int (nI i)]) (rest := []) ⟨hx, hb, hml, hown, hts⟩ (c_X4_has l D g b0 H1 μ (sV σ) (sB σ) (nC) (va_up x 7 h1) hM1 (by omega) (by omega) (by omega) (sF σ n) (i) (by omega) (obit σ (sF σ n) i) (hR1.has hfo (by omega))) (cwV 2 hts gX4_lay_X4_has rfl rfl rfl (by decide +kernel) ⟨Nat.le_of_ble_eq_true rfl, Nat.le_of_ble_eq_true rfl⟩) ⟨kPc_blind, k_recv hK hM1.o rfl, fun U hU hW => kPc_at hK hU hW⟩ rfl rfl hl.1 rfl (lv_room (Nat.le_of_ble_eq_true rfl)) dX4_lay_47 ⟨Nat.le_of_ble_eq_true rfl, Nat.le_of_ble_eq_true rfl⟩) ?_
        refine lv_istore (lv' := [(8, .int (b2i (obit σ (sF σ n) i))), (7, .int (b2i (bt (sW σ n) i))), (6, .int (nI i)), (5, .int (b2i ch)), (4, .int (b2i ca)), (3, .int (nI n)), (0, .ref (μ 0)), (1, .int (nI h)), (2, .int ((-1) - nI n))]) hx hb dX4_lay_50 hl (by decide) rfl (fun ls hl => ?_)
        refine lv_aload_n hx hb dX4_lay_52 rfl (lv_at hl 6 rfl) ?_
        refine lv_iload_n hx hb dX4_lay_53 rfl (lv_at hl 7 rfl) ?_
        refine lv_iload hx hb dX4_lay_54 (lv_at hl 2 rfl) ?_
        refine k_callX (va_runV (As := [.int (nI h), .int (nI i)]) (rest := []) ⟨hx, hb, hml, hown, hts⟩ (c_X4_has l D g b0 H1 μ (sV σ) (sB σ) (nC) (va_up x 7 h1) hM1 (by omega) (by omega) (by omega) (some h) (i) (by omega) (bt (sW σ h) i) (hR1.has (o := some h) (fun p hp => by cases hp; exact hh4) (by omega))) (cwV 2 hts gX4_lay_X4_has rfl rfl rfl (by decide +kernel) ⟨Nat.le_of_ble_eq_true rfl, Nat.le_of_ble_eq_true rfl⟩) ⟨kPc_blind, k_recv hK hM1.o rfl, fun U hU hW => kPc_at hK hU hW⟩ rfl rfl hl.1 rfl (lv_room (Nat.le_of_ble_eq_true rfl)) dX4_lay_56 ⟨Nat.le_of_ble_eq_true rfl, Nat.le_of_ble_eq_true rfl⟩) ?_
        refine lv_istore (lv' := [(9, .int (b2i (bt (sW σ h) i))), (8, .int (b2i (obit σ (sF σ n) i))), (7, .int (b2i (bt (sW σ n) i))), (6, .int (nI i)), (5, .int (b2i ch)), (4, .int (b2i ca)), (3, .int (nI n)), (0, .ref (μ 0)), (1, .int (nI h)), (2, .int ((-1) - nI n))]) hx hb dX4_lay_59 hl (by decide) rfl (fun ls hl => ?_)
        have seg_707 : ∀ ls, lv_has ls 12 [(9, .int (b2i (bt (sW σ h) i))), (8, .int (b2i (obit σ (sF σ n) i))), (7, .int (b2i (bt (sW σ n) i))), (6, .int (nI i)), (5, .int (b2i ch)), (4, .int (b2i ca)), (3, .int (nI n)), (0, .ref (μ 0)), (1, .int (nI h)), (2, .int ((-1) - nI n))] → W p l e (headSpec wsX4_lay ({ frames := 1, cells := 0, slots := 0, locals := 22 } : Room)).room s m ([.ref (μ 0), .int (nI h), .int ((-1) - nI n)] : List Value).toArray below meth c H1 locs1 0 0 (MQ below (kI (fun r H1 => ∃ (ok : Bool) (h1 : Nat → Int32), r = b2i ok ∧ MC D g b0 μ (sV σ) (sB σ) nC (va_up x 7 h1) H1 ∧ MFr μ H H1 ∧ (∀ t, t < 4096 → h1 t = b2i ((obit σ (sF σ n) t && !(bt (sW σ n) t)) || (bt (sW σ h) t && !(bt (sW σ n) t && !(obit σ (sF σ n) t))))) ∧ (ok = true ↔ ((∀ t, t < 4096 → (bt (sW σ n) t) = true → (obit σ (sF σ n) t) = false → (bt (sW σ h) t) = true) ∧ (∃ t, t < 4096 ∧ (((obit σ (sF σ n) t) = true ∧ (bt (sW σ n) t) = false ∧ (bt (sW σ h) t) = false) ∨ ((bt (sW σ n) t) = true ∧ (obit σ (sF σ n) t) = false ∧ (bt (sW σ h) t) = true))))))) ([.ref (μ 0), .int (nI h), .int ((-1) - nI n)] : List Value).toArray s 0 0 (kF b0)) (F0 m 98 ls [.int (b2i ((obit σ (sF σ n) i && !(bt (sW σ n) i))))]) → W p l e (headSpec wsX4_lay ({ frames := 1, cells := 0, slots := 0, locals := 22 } : Room)).room s m ([.ref (μ 0), .int (nI h), .int ((-1) - nI n)] : List Value).toArray below meth c H1 locs1 0 0 (MQ below (kI (fun r H1 => ∃ (ok : Bool) (h1 : Nat → Int32), r = b2i ok ∧ MC D g b0 μ (sV σ) (sB σ) nC (va_up x 7 h1) H1 ∧ MFr μ H H1 ∧ (∀ t, t < 4096 → h1 t = b2i ((obit σ (sF σ n) t && !(bt (sW σ n) t)) || (bt (sW σ h) t && !(bt (sW σ n) t && !(obit σ (sF σ n) t))))) ∧ (ok = true ↔ ((∀ t, t < 4096 → (bt (sW σ n) t) = true → (obit σ (sF σ n) t) = false → (bt (sW σ h) t) = true) ∧ (∃ t, t < 4096 ∧ (((obit σ (sF σ n) t) = true ∧ (bt (sW σ n) t) = false ∧ (bt (sW σ h) t) = false) ∨ ((bt (sW σ n) t) = true ∧ (obit σ (sF σ n) t) = false ∧ (bt (sW σ h) t) = true))))))) ([.ref (μ 0), .int (nI h), .int ((-1) - nI n)] : List Value).toArray s 0 0 (kF b0)) (F0 m 61 ls []) := by
          intro ls hl hk
          refine lv_iload_n hx hb dX4_lay_61 rfl (lv_at hl 9 rfl) ?_
          refine lv_if_ge (tgt := 83) hx hb dX4_lay_62 (by decide) (fun q => absurd (neg_lt (k := n) (by omega)) (Int32.not_lt.mpr q)) (fun _ => ?_)
          refine lv_iload hx hb dX4_lay_65 (lv_at hl 1 rfl) ?_
          refine z_if_eq (tgt := 79) hx hb dX4_lay_67 (by decide) (fun c_708 => ?_) (fun c_708 => ?_)
          · skip
            refine lv_iconst (v := b2i false) hx hb dX4_lay_79 (by decide +kernel) ?_
            refine lv_goto (tgt := 98) hx hb dX4_lay_80 (by decide) ?_
            have e : ((obit σ (sF σ n) i && !(bt (sW σ n) i))) = false := by
              revert c_708
              cases (bt (sW σ n) i) <;> cases (obit σ (sF σ n) i) <;> simp
            rw [e] at hk
            exact hk
          · skip
            refine lv_iload hx hb dX4_lay_70 (lv_at hl 2 rfl) ?_
            refine z_if_ne (tgt := 79) hx hb dX4_lay_72 (by decide) (fun c_709 => ?_) (fun c_709 => ?_)
            · skip
              refine lv_iconst (v := b2i false) hx hb dX4_lay_79 (by decide +kernel) ?_
              refine lv_goto (tgt := 98) hx hb dX4_lay_80 (by decide) ?_
              have e : ((obit σ (sF σ n) i && !(bt (sW σ n) i))) = false := by
                revert c_708 c_709
                cases (bt (sW σ n) i) <;> cases (obit σ (sF σ n) i) <;> simp
              rw [e] at hk
              exact hk
            · skip
              refine lv_iconst (v := b2i true) hx hb dX4_lay_75 (by decide +kernel) ?_
              refine lv_goto (tgt := 98) hx hb dX4_lay_76 (by decide) ?_
              have e : ((obit σ (sF σ n) i && !(bt (sW σ n) i))) = true := by
                revert c_708 c_709
                cases (bt (sW σ n) i) <;> cases (obit σ (sF σ n) i) <;> simp
              rw [e] at hk
              exact hk
        refine seg_707 ls hl ?_
        refine lv_istore (lv' := [(10, .int (b2i ((obit σ (sF σ n) i && !(bt (sW σ n) i))))), (9, .int (b2i (bt (sW σ h) i))), (8, .int (b2i (obit σ (sF σ n) i))), (7, .int (b2i (bt (sW σ n) i))), (6, .int (nI i)), (5, .int (b2i ch)), (4, .int (b2i ca)), (3, .int (nI n)), (0, .ref (μ 0)), (1, .int (nI h)), (2, .int ((-1) - nI n))]) hx hb dX4_lay_98 hl (by decide) rfl (fun ls hl => ?_)
        have seg_710 : ∀ ls, lv_has ls 12 [(10, .int (b2i ((obit σ (sF σ n) i && !(bt (sW σ n) i))))), (9, .int (b2i (bt (sW σ h) i))), (8, .int (b2i (obit σ (sF σ n) i))), (7, .int (b2i (bt (sW σ n) i))), (6, .int (nI i)), (5, .int (b2i ch)), (4, .int (b2i ca)), (3, .int (nI n)), (0, .ref (μ 0)), (1, .int (nI h)), (2, .int ((-1) - nI n))] → W p l e (headSpec wsX4_lay ({ frames := 1, cells := 0, slots := 0, locals := 22 } : Room)).room s m ([.ref (μ 0), .int (nI h), .int ((-1) - nI n)] : List Value).toArray below meth c H1 locs1 0 0 (MQ below (kI (fun r H1 => ∃ (ok : Bool) (h1 : Nat → Int32), r = b2i ok ∧ MC D g b0 μ (sV σ) (sB σ) nC (va_up x 7 h1) H1 ∧ MFr μ H H1 ∧ (∀ t, t < 4096 → h1 t = b2i ((obit σ (sF σ n) t && !(bt (sW σ n) t)) || (bt (sW σ h) t && !(bt (sW σ n) t && !(obit σ (sF σ n) t))))) ∧ (ok = true ↔ ((∀ t, t < 4096 → (bt (sW σ n) t) = true → (obit σ (sF σ n) t) = false → (bt (sW σ h) t) = true) ∧ (∃ t, t < 4096 ∧ (((obit σ (sF σ n) t) = true ∧ (bt (sW σ n) t) = false ∧ (bt (sW σ h) t) = false) ∨ ((bt (sW σ n) t) = true ∧ (obit σ (sF σ n) t) = false ∧ (bt (sW σ h) t) = true))))))) ([.ref (μ 0), .int (nI h), .int ((-1) - nI n)] : List Value).toArray s 0 0 (kF b0)) (F0 m 117 ls [.int (b2i ((bt (sW σ n) i && !(obit σ (sF σ n) i))))]) → W p l e (headSpec wsX4_lay ({ frames := 1, cells := 0, slots := 0, locals := 22 } : Room)).room s m ([.ref (μ 0), .int (nI h), .int ((-1) - nI n)] : List Value).toArray below meth c H1 locs1 0 0 (MQ below (kI (fun r H1 => ∃ (ok : Bool) (h1 : Nat → Int32), r = b2i ok ∧ MC D g b0 μ (sV σ) (sB σ) nC (va_up x 7 h1) H1 ∧ MFr μ H H1 ∧ (∀ t, t < 4096 → h1 t = b2i ((obit σ (sF σ n) t && !(bt (sW σ n) t)) || (bt (sW σ h) t && !(bt (sW σ n) t && !(obit σ (sF σ n) t))))) ∧ (ok = true ↔ ((∀ t, t < 4096 → (bt (sW σ n) t) = true → (obit σ (sF σ n) t) = false → (bt (sW σ h) t) = true) ∧ (∃ t, t < 4096 ∧ (((obit σ (sF σ n) t) = true ∧ (bt (sW σ n) t) = false ∧ (bt (sW σ h) t) = false) ∨ ((bt (sW σ n) t) = true ∧ (obit σ (sF σ n) t) = false ∧ (bt (sW σ h) t) = true))))))) ([.ref (μ 0), .int (nI h), .int ((-1) - nI n)] : List Value).toArray s 0 0 (kF b0)) (F0 m 100 ls []) := by
          intro ls hl hk
          refine lv_iload hx hb dX4_lay_100 (lv_at hl 3 rfl) ?_
          refine lv_iload hx hb dX4_lay_102 (lv_at hl 2 rfl) ?_
          refine z_icmp_eq (tgt := 116) hx hb dX4_lay_104 (by decide) (fun c_711 => ?_) (fun c_711 => ?_)
          · skip
            refine lv_iconst (v := b2i false) hx hb dX4_lay_116 (by decide +kernel) ?_
            have e : ((bt (sW σ n) i && !(obit σ (sF σ n) i))) = false := by
              revert c_711
              cases (bt (sW σ n) i) <;> cases (obit σ (sF σ n) i) <;> simp
            rw [e] at hk
            exact hk
          · skip
            refine lv_iload hx hb dX4_lay_107 (lv_at hl 0 rfl) ?_
            refine z_if_ne (tgt := 116) hx hb dX4_lay_109 (by decide) (fun c_712 => ?_) (fun c_712 => ?_)
            · skip
              refine lv_iconst (v := b2i false) hx hb dX4_lay_116 (by decide +kernel) ?_
              have e : ((bt (sW σ n) i && !(obit σ (sF σ n) i))) = false := by
                revert c_711 c_712
                cases (bt (sW σ n) i) <;> cases (obit σ (sF σ n) i) <;> simp
              rw [e] at hk
              exact hk
            · skip
              refine lv_iconst (v := b2i true) hx hb dX4_lay_112 (by decide +kernel) ?_
              refine lv_goto (tgt := 117) hx hb dX4_lay_113 (by decide) ?_
              have e : ((bt (sW σ n) i && !(obit σ (sF σ n) i))) = true := by
                revert c_711 c_712
                cases (bt (sW σ n) i) <;> cases (obit σ (sF σ n) i) <;> simp
              rw [e] at hk
              exact hk
        refine seg_710 ls hl ?_
        refine lv_istore (lv' := [(11, .int (b2i ((bt (sW σ n) i && !(obit σ (sF σ n) i))))), (10, .int (b2i ((obit σ (sF σ n) i && !(bt (sW σ n) i))))), (9, .int (b2i (bt (sW σ h) i))), (8, .int (b2i (obit σ (sF σ n) i))), (7, .int (b2i (bt (sW σ n) i))), (6, .int (nI i)), (5, .int (b2i ch)), (4, .int (b2i ca)), (3, .int (nI n)), (0, .ref (μ 0)), (1, .int (nI h)), (2, .int ((-1) - nI n))]) hx hb dX4_lay_117 hl (by decide) rfl (fun ls hl => ?_)
        have seg_713 : ∀ ls, lv_has ls 12 [(11, .int (b2i ((bt (sW σ n) i && !(obit σ (sF σ n) i))))), (10, .int (b2i ((obit σ (sF σ n) i && !(bt (sW σ n) i))))), (9, .int (b2i (bt (sW σ h) i))), (8, .int (b2i (obit σ (sF σ n) i))), (7, .int (b2i (bt (sW σ n) i))), (6, .int (nI i)), (5, .int (b2i ch)), (4, .int (b2i ca)), (3, .int (nI n)), (0, .ref (μ 0)), (1, .int (nI h)), (2, .int ((-1) - nI n))] → W p l e (headSpec wsX4_lay ({ frames := 1, cells := 0, slots := 0, locals := 22 } : Room)).room s m ([.ref (μ 0), .int (nI h), .int ((-1) - nI n)] : List Value).toArray below meth c H1 locs1 0 0 (MQ below (kI (fun r H1 => ∃ (ok : Bool) (h1 : Nat → Int32), r = b2i ok ∧ MC D g b0 μ (sV σ) (sB σ) nC (va_up x 7 h1) H1 ∧ MFr μ H H1 ∧ (∀ t, t < 4096 → h1 t = b2i ((obit σ (sF σ n) t && !(bt (sW σ n) t)) || (bt (sW σ h) t && !(bt (sW σ n) t && !(obit σ (sF σ n) t))))) ∧ (ok = true ↔ ((∀ t, t < 4096 → (bt (sW σ n) t) = true → (obit σ (sF σ n) t) = false → (bt (sW σ h) t) = true) ∧ (∃ t, t < 4096 ∧ (((obit σ (sF σ n) t) = true ∧ (bt (sW σ n) t) = false ∧ (bt (sW σ h) t) = false) ∨ ((bt (sW σ n) t) = true ∧ (obit σ (sF σ n) t) = false ∧ (bt (sW σ h) t) = true))))))) ([.ref (μ 0), .int (nI h), .int ((-1) - nI n)] : List Value).toArray s 0 0 (kF b0)) (F0 m 139 ls [.int (b2i ((ca && (!(bt (sW σ n) i && !(obit σ (sF σ n) i)) || bt (sW σ h) i))))]) → W p l e (headSpec wsX4_lay ({ frames := 1, cells := 0, slots := 0, locals := 22 } : Room)).room s m ([.ref (μ 0), .int (nI h), .int ((-1) - nI n)] : List Value).toArray below meth c H1 locs1 0 0 (MQ below (kI (fun r H1 => ∃ (ok : Bool) (h1 : Nat → Int32), r = b2i ok ∧ MC D g b0 μ (sV σ) (sB σ) nC (va_up x 7 h1) H1 ∧ MFr μ H H1 ∧ (∀ t, t < 4096 → h1 t = b2i ((obit σ (sF σ n) t && !(bt (sW σ n) t)) || (bt (sW σ h) t && !(bt (sW σ n) t && !(obit σ (sF σ n) t))))) ∧ (ok = true ↔ ((∀ t, t < 4096 → (bt (sW σ n) t) = true → (obit σ (sF σ n) t) = false → (bt (sW σ h) t) = true) ∧ (∃ t, t < 4096 ∧ (((obit σ (sF σ n) t) = true ∧ (bt (sW σ n) t) = false ∧ (bt (sW σ h) t) = false) ∨ ((bt (sW σ n) t) = true ∧ (obit σ (sF σ n) t) = false ∧ (bt (sW σ h) t) = true))))))) ([.ref (μ 0), .int (nI h), .int ((-1) - nI n)] : List Value).toArray s 0 0 (kF b0)) (F0 m 119 ls []) := by
          intro ls hl hk
          refine lv_iload hx hb dX4_lay_119 (lv_at hl 7 rfl) ?_
          refine z_if_eq (tgt := 138) hx hb dX4_lay_121 (by decide) (fun c_714 => ?_) (fun c_714 => ?_)
          · skip
            refine lv_iconst (v := b2i false) hx hb dX4_lay_138 (by decide +kernel) ?_
            have e : ((ca && (!(bt (sW σ n) i && !(obit σ (sF σ n) i)) || bt (sW σ h) i))) = false := by
              revert c_714
              cases (bt (sW σ n) i) <;> cases (obit σ (sF σ n) i) <;> cases (bt (sW σ h) i) <;> cases (ca) <;> simp
            rw [e] at hk
            exact hk
          · skip
            refine lv_iload hx hb dX4_lay_124 (lv_at hl 0 rfl) ?_
            refine z_if_eq (tgt := 134) hx hb dX4_lay_126 (by decide) (fun c_715 => ?_) (fun c_715 => ?_)
            · skip
              refine lv_iconst (v := b2i true) hx hb dX4_lay_134 (by decide +kernel) ?_
              refine lv_goto (tgt := 139) hx hb dX4_lay_135 (by decide) ?_
              have e : ((ca && (!(bt (sW σ n) i && !(obit σ (sF σ n) i)) || bt (sW σ h) i))) = true := by
                revert c_714 c_715
                cases (bt (sW σ n) i) <;> cases (obit σ (sF σ n) i) <;> cases (bt (sW σ h) i) <;> cases (ca) <;> simp
              rw [e] at hk
              exact hk
            · skip
              refine lv_iload hx hb dX4_lay_129 (lv_at hl 2 rfl) ?_
              refine z_if_eq (tgt := 138) hx hb dX4_lay_131 (by decide) (fun c_716 => ?_) (fun c_716 => ?_)
              · skip
                refine lv_iconst (v := b2i false) hx hb dX4_lay_138 (by decide +kernel) ?_
                have e : ((ca && (!(bt (sW σ n) i && !(obit σ (sF σ n) i)) || bt (sW σ h) i))) = false := by
                  revert c_714 c_715 c_716
                  cases (bt (sW σ n) i) <;> cases (obit σ (sF σ n) i) <;> cases (bt (sW σ h) i) <;> cases (ca) <;> simp
                rw [e] at hk
                exact hk
              · skip
                refine lv_iconst (v := b2i true) hx hb dX4_lay_134 (by decide +kernel) ?_
                refine lv_goto (tgt := 139) hx hb dX4_lay_135 (by decide) ?_
                have e : ((ca && (!(bt (sW σ n) i && !(obit σ (sF σ n) i)) || bt (sW σ h) i))) = true := by
                  revert c_714 c_715 c_716
                  cases (bt (sW σ n) i) <;> cases (obit σ (sF σ n) i) <;> cases (bt (sW σ h) i) <;> cases (ca) <;> simp
                rw [e] at hk
                exact hk
        refine seg_713 ls hl ?_
        refine lv_istore (lv' := [(4, .int (b2i ((ca && (!(bt (sW σ n) i && !(obit σ (sF σ n) i)) || bt (sW σ h) i))))), (11, .int (b2i ((bt (sW σ n) i && !(obit σ (sF σ n) i))))), (10, .int (b2i ((obit σ (sF σ n) i && !(bt (sW σ n) i))))), (9, .int (b2i (bt (sW σ h) i))), (8, .int (b2i (obit σ (sF σ n) i))), (7, .int (b2i (bt (sW σ n) i))), (6, .int (nI i)), (5, .int (b2i ch)), (3, .int (nI n)), (0, .ref (μ 0)), (1, .int (nI h)), (2, .int ((-1) - nI n))]) hx hb dX4_lay_139 hl (by decide) rfl (fun ls hl => ?_)
        have seg_717 : ∀ ls, lv_has ls 12 [(4, .int (b2i ((ca && (!(bt (sW σ n) i && !(obit σ (sF σ n) i)) || bt (sW σ h) i))))), (11, .int (b2i ((bt (sW σ n) i && !(obit σ (sF σ n) i))))), (10, .int (b2i ((obit σ (sF σ n) i && !(bt (sW σ n) i))))), (9, .int (b2i (bt (sW σ h) i))), (8, .int (b2i (obit σ (sF σ n) i))), (7, .int (b2i (bt (sW σ n) i))), (6, .int (nI i)), (5, .int (b2i ch)), (3, .int (nI n)), (0, .ref (μ 0)), (1, .int (nI h)), (2, .int ((-1) - nI n))] → W p l e (headSpec wsX4_lay ({ frames := 1, cells := 0, slots := 0, locals := 22 } : Room)).room s m ([.ref (μ 0), .int (nI h), .int ((-1) - nI n)] : List Value).toArray below meth c H1 locs1 0 0 (MQ below (kI (fun r H1 => ∃ (ok : Bool) (h1 : Nat → Int32), r = b2i ok ∧ MC D g b0 μ (sV σ) (sB σ) nC (va_up x 7 h1) H1 ∧ MFr μ H H1 ∧ (∀ t, t < 4096 → h1 t = b2i ((obit σ (sF σ n) t && !(bt (sW σ n) t)) || (bt (sW σ h) t && !(bt (sW σ n) t && !(obit σ (sF σ n) t))))) ∧ (ok = true ↔ ((∀ t, t < 4096 → (bt (sW σ n) t) = true → (obit σ (sF σ n) t) = false → (bt (sW σ h) t) = true) ∧ (∃ t, t < 4096 ∧ (((obit σ (sF σ n) t) = true ∧ (bt (sW σ n) t) = false ∧ (bt (sW σ h) t) = false) ∨ ((bt (sW σ n) t) = true ∧ (obit σ (sF σ n) t) = false ∧ (bt (sW σ h) t) = true))))))) ([.ref (μ 0), .int (nI h), .int ((-1) - nI n)] : List Value).toArray s 0 0 (kF b0)) (F0 m 171 ls [.int (b2i ((ch || ((obit σ (sF σ n) i && !(bt (sW σ n) i)) && !(bt (sW σ h) i)) || ((bt (sW σ n) i && !(obit σ (sF σ n) i)) && bt (sW σ h) i))))]) → W p l e (headSpec wsX4_lay ({ frames := 1, cells := 0, slots := 0, locals := 22 } : Room)).room s m ([.ref (μ 0), .int (nI h), .int ((-1) - nI n)] : List Value).toArray below meth c H1 locs1 0 0 (MQ below (kI (fun r H1 => ∃ (ok : Bool) (h1 : Nat → Int32), r = b2i ok ∧ MC D g b0 μ (sV σ) (sB σ) nC (va_up x 7 h1) H1 ∧ MFr μ H H1 ∧ (∀ t, t < 4096 → h1 t = b2i ((obit σ (sF σ n) t && !(bt (sW σ n) t)) || (bt (sW σ h) t && !(bt (sW σ n) t && !(obit σ (sF σ n) t))))) ∧ (ok = true ↔ ((∀ t, t < 4096 → (bt (sW σ n) t) = true → (obit σ (sF σ n) t) = false → (bt (sW σ h) t) = true) ∧ (∃ t, t < 4096 ∧ (((obit σ (sF σ n) t) = true ∧ (bt (sW σ n) t) = false ∧ (bt (sW σ h) t) = false) ∨ ((bt (sW σ n) t) = true ∧ (obit σ (sF σ n) t) = false ∧ (bt (sW σ h) t) = true))))))) ([.ref (μ 0), .int (nI h), .int ((-1) - nI n)] : List Value).toArray s 0 0 (kF b0)) (F0 m 141 ls []) := by
          intro ls hl hk
          refine lv_iload hx hb dX4_lay_141 (lv_at hl 7 rfl) ?_
          refine z_if_ne (tgt := 166) hx hb dX4_lay_143 (by decide) (fun c_718 => ?_) (fun c_718 => ?_)
          · skip
            refine lv_iconst (v := b2i true) hx hb dX4_lay_166 (by decide +kernel) ?_
            refine lv_goto (tgt := 171) hx hb dX4_lay_167 (by decide) ?_
            have e : ((ch || ((obit σ (sF σ n) i && !(bt (sW σ n) i)) && !(bt (sW σ h) i)) || ((bt (sW σ n) i && !(obit σ (sF σ n) i)) && bt (sW σ h) i))) = true := by
              revert c_718
              cases (bt (sW σ n) i) <;> cases (obit σ (sF σ n) i) <;> cases (bt (sW σ h) i) <;> cases (ch) <;> simp
            rw [e] at hk
            exact hk
          · skip
            refine lv_iload hx hb dX4_lay_146 (lv_at hl 2 rfl) ?_
            refine z_if_eq (tgt := 156) hx hb dX4_lay_148 (by decide) (fun c_719 => ?_) (fun c_719 => ?_)
            · skip
              refine lv_iload hx hb dX4_lay_156 (lv_at hl 1 rfl) ?_
              refine z_if_eq (tgt := 170) hx hb dX4_lay_158 (by decide) (fun c_720 => ?_) (fun c_720 => ?_)
              · skip
                refine lv_iconst (v := b2i false) hx hb dX4_lay_170 (by decide +kernel) ?_
                have e : ((ch || ((obit σ (sF σ n) i && !(bt (sW σ n) i)) && !(bt (sW σ h) i)) || ((bt (sW σ n) i && !(obit σ (sF σ n) i)) && bt (sW σ h) i))) = false := by
                  revert c_718 c_719 c_720
                  cases (bt (sW σ n) i) <;> cases (obit σ (sF σ n) i) <;> cases (bt (sW σ h) i) <;> cases (ch) <;> simp
                rw [e] at hk
                exact hk
              · skip
                refine lv_iload hx hb dX4_lay_161 (lv_at hl 3 rfl) ?_
                refine z_if_eq (tgt := 170) hx hb dX4_lay_163 (by decide) (fun c_721 => ?_) (fun c_721 => ?_)
                · skip
                  refine lv_iconst (v := b2i false) hx hb dX4_lay_170 (by decide +kernel) ?_
                  have e : ((ch || ((obit σ (sF σ n) i && !(bt (sW σ n) i)) && !(bt (sW σ h) i)) || ((bt (sW σ n) i && !(obit σ (sF σ n) i)) && bt (sW σ h) i))) = false := by
                    revert c_718 c_719 c_720 c_721
                    cases (bt (sW σ n) i) <;> cases (obit σ (sF σ n) i) <;> cases (bt (sW σ h) i) <;> cases (ch) <;> simp
                  rw [e] at hk
                  exact hk
                · skip
                  refine lv_iconst (v := b2i true) hx hb dX4_lay_166 (by decide +kernel) ?_
                  refine lv_goto (tgt := 171) hx hb dX4_lay_167 (by decide) ?_
                  have e : ((ch || ((obit σ (sF σ n) i && !(bt (sW σ n) i)) && !(bt (sW σ h) i)) || ((bt (sW σ n) i && !(obit σ (sF σ n) i)) && bt (sW σ h) i))) = true := by
                    revert c_718 c_719 c_720 c_721
                    cases (bt (sW σ n) i) <;> cases (obit σ (sF σ n) i) <;> cases (bt (sW σ h) i) <;> cases (ch) <;> simp
                  rw [e] at hk
                  exact hk
            · skip
              refine lv_iload hx hb dX4_lay_151 (lv_at hl 3 rfl) ?_
              refine z_if_eq (tgt := 166) hx hb dX4_lay_153 (by decide) (fun c_722 => ?_) (fun c_722 => ?_)
              · skip
                refine lv_iconst (v := b2i true) hx hb dX4_lay_166 (by decide +kernel) ?_
                refine lv_goto (tgt := 171) hx hb dX4_lay_167 (by decide) ?_
                have e : ((ch || ((obit σ (sF σ n) i && !(bt (sW σ n) i)) && !(bt (sW σ h) i)) || ((bt (sW σ n) i && !(obit σ (sF σ n) i)) && bt (sW σ h) i))) = true := by
                  revert c_718 c_719 c_722
                  cases (bt (sW σ n) i) <;> cases (obit σ (sF σ n) i) <;> cases (bt (sW σ h) i) <;> cases (ch) <;> simp
                rw [e] at hk
                exact hk
              · skip
                refine lv_iload hx hb dX4_lay_156 (lv_at hl 1 rfl) ?_
                refine z_if_eq (tgt := 170) hx hb dX4_lay_158 (by decide) (fun c_723 => ?_) (fun c_723 => ?_)
                · skip
                  refine lv_iconst (v := b2i false) hx hb dX4_lay_170 (by decide +kernel) ?_
                  have e : ((ch || ((obit σ (sF σ n) i && !(bt (sW σ n) i)) && !(bt (sW σ h) i)) || ((bt (sW σ n) i && !(obit σ (sF σ n) i)) && bt (sW σ h) i))) = false := by
                    revert c_718 c_719 c_722 c_723
                    cases (bt (sW σ n) i) <;> cases (obit σ (sF σ n) i) <;> cases (bt (sW σ h) i) <;> cases (ch) <;> simp
                  rw [e] at hk
                  exact hk
                · skip
                  refine lv_iload hx hb dX4_lay_161 (lv_at hl 3 rfl) ?_
                  refine z_if_eq (tgt := 170) hx hb dX4_lay_163 (by decide) (fun c_724 => ?_) (fun c_724 => ?_)
                  · skip
                    refine lv_iconst (v := b2i false) hx hb dX4_lay_170 (by decide +kernel) ?_
                    have e : ((ch || ((obit σ (sF σ n) i && !(bt (sW σ n) i)) && !(bt (sW σ h) i)) || ((bt (sW σ n) i && !(obit σ (sF σ n) i)) && bt (sW σ h) i))) = false := by
                      revert c_718 c_719 c_722 c_723 c_724
                      cases (bt (sW σ n) i) <;> cases (obit σ (sF σ n) i) <;> cases (bt (sW σ h) i) <;> cases (ch) <;> simp
                    rw [e] at hk
                    exact hk
                  · skip
                    refine lv_iconst (v := b2i true) hx hb dX4_lay_166 (by decide +kernel) ?_
                    refine lv_goto (tgt := 171) hx hb dX4_lay_167 (by decide) ?_
                    have e : ((ch || ((obit σ (sF σ n) i && !(bt (sW σ n) i)) && !(bt (sW σ h) i)) || ((bt (sW σ n) i && !(obit σ (sF σ n) i)) && bt (sW σ h) i))) = true := by
                      revert c_718 c_719 c_722 c_723 c_724
                      cases (bt (sW σ n) i) <;> cases (obit σ (sF σ n) i) <;> cases (bt (sW σ h) i) <;> cases (ch) <;> simp
                    rw [e] at hk
                    exact hk
        refine seg_717 ls hl ?_
        refine lv_istore (lv' := [(5, .int (b2i ((ch || ((obit σ (sF σ n) i && !(bt (sW σ n) i)) && !(bt (sW σ h) i)) || ((bt (sW σ n) i && !(obit σ (sF σ n) i)) && bt (sW σ h) i))))), (4, .int (b2i ((ca && (!(bt (sW σ n) i && !(obit σ (sF σ n) i)) || bt (sW σ h) i))))), (11, .int (b2i ((bt (sW σ n) i && !(obit σ (sF σ n) i))))), (10, .int (b2i ((obit σ (sF σ n) i && !(bt (sW σ n) i))))), (9, .int (b2i (bt (sW σ h) i))), (8, .int (b2i (obit σ (sF σ n) i))), (7, .int (b2i (bt (sW σ n) i))), (6, .int (nI i)), (3, .int (nI n)), (0, .ref (μ 0)), (1, .int (nI h)), (2, .int ((-1) - nI n))]) hx hb dX4_lay_171 hl (by decide) rfl (fun ls hl => ?_)
        refine lv_aload_n hx hb dX4_lay_173 rfl (lv_at hl 9 rfl) ?_
        refine k_get (ci := 4) (C := RX4) (T := TX4) (N := 13) (v := .ref (μ 7)) hx hb hts (by decide +kernel) hown hK hM1.o rfl 8 (by decide) rfl (hts (.fieldLink RX4 31 RX4 "hand" "[B") (by decide +kernel)) rfl dX4_lay_174 ?_
        refine lv_iload hx hb dX4_lay_177 (lv_at hl 7 rfl) ?_
        have seg_725 : ∀ ls, lv_has ls 12 [(5, .int (b2i ((ch || ((obit σ (sF σ n) i && !(bt (sW σ n) i)) && !(bt (sW σ h) i)) || ((bt (sW σ n) i && !(obit σ (sF σ n) i)) && bt (sW σ h) i))))), (4, .int (b2i ((ca && (!(bt (sW σ n) i && !(obit σ (sF σ n) i)) || bt (sW σ h) i))))), (11, .int (b2i ((bt (sW σ n) i && !(obit σ (sF σ n) i))))), (10, .int (b2i ((obit σ (sF σ n) i && !(bt (sW σ n) i))))), (9, .int (b2i (bt (sW σ h) i))), (8, .int (b2i (obit σ (sF σ n) i))), (7, .int (b2i (bt (sW σ n) i))), (6, .int (nI i)), (3, .int (nI n)), (0, .ref (μ 0)), (1, .int (nI h)), (2, .int ((-1) - nI n))] → W p l e (headSpec wsX4_lay ({ frames := 1, cells := 0, slots := 0, locals := 22 } : Room)).room s m ([.ref (μ 0), .int (nI h), .int ((-1) - nI n)] : List Value).toArray below meth c H1 locs1 0 0 (MQ below (kI (fun r H1 => ∃ (ok : Bool) (h1 : Nat → Int32), r = b2i ok ∧ MC D g b0 μ (sV σ) (sB σ) nC (va_up x 7 h1) H1 ∧ MFr μ H H1 ∧ (∀ t, t < 4096 → h1 t = b2i ((obit σ (sF σ n) t && !(bt (sW σ n) t)) || (bt (sW σ h) t && !(bt (sW σ n) t && !(obit σ (sF σ n) t))))) ∧ (ok = true ↔ ((∀ t, t < 4096 → (bt (sW σ n) t) = true → (obit σ (sF σ n) t) = false → (bt (sW σ h) t) = true) ∧ (∃ t, t < 4096 ∧ (((obit σ (sF σ n) t) = true ∧ (bt (sW σ n) t) = false ∧ (bt (sW σ h) t) = false) ∨ ((bt (sW σ n) t) = true ∧ (obit σ (sF σ n) t) = false ∧ (bt (sW σ h) t) = true))))))) ([.ref (μ 0), .int (nI h), .int ((-1) - nI n)] : List Value).toArray s 0 0 (kF b0)) (F0 m 199 ls [.int (b2i (((obit σ (sF σ n) i && !(bt (sW σ n) i)) || (bt (sW σ h) i && !(bt (sW σ n) i && !(obit σ (sF σ n) i)))))), .int (nI i), .ref (μ 7)]) → W p l e (headSpec wsX4_lay ({ frames := 1, cells := 0, slots := 0, locals := 22 } : Room)).room s m ([.ref (μ 0), .int (nI h), .int ((-1) - nI n)] : List Value).toArray below meth c H1 locs1 0 0 (MQ below (kI (fun r H1 => ∃ (ok : Bool) (h1 : Nat → Int32), r = b2i ok ∧ MC D g b0 μ (sV σ) (sB σ) nC (va_up x 7 h1) H1 ∧ MFr μ H H1 ∧ (∀ t, t < 4096 → h1 t = b2i ((obit σ (sF σ n) t && !(bt (sW σ n) t)) || (bt (sW σ h) t && !(bt (sW σ n) t && !(obit σ (sF σ n) t))))) ∧ (ok = true ↔ ((∀ t, t < 4096 → (bt (sW σ n) t) = true → (obit σ (sF σ n) t) = false → (bt (sW σ h) t) = true) ∧ (∃ t, t < 4096 ∧ (((obit σ (sF σ n) t) = true ∧ (bt (sW σ n) t) = false ∧ (bt (sW σ h) t) = false) ∨ ((bt (sW σ n) t) = true ∧ (obit σ (sF σ n) t) = false ∧ (bt (sW σ h) t) = true))))))) ([.ref (μ 0), .int (nI h), .int ((-1) - nI n)] : List Value).toArray s 0 0 (kF b0)) (F0 m 179 ls [.int (nI i), .ref (μ 7)]) := by
          intro ls hl hk
          refine lv_iload hx hb dX4_lay_179 (lv_at hl 3 rfl) ?_
          refine z_if_ne (tgt := 194) hx hb dX4_lay_181 (by decide) (fun c_726 => ?_) (fun c_726 => ?_)
          · skip
            refine lv_iconst (v := b2i true) hx hb dX4_lay_194 (by decide +kernel) ?_
            refine lv_goto (tgt := 199) hx hb dX4_lay_195 (by decide) ?_
            have e : (((obit σ (sF σ n) i && !(bt (sW σ n) i)) || (bt (sW σ h) i && !(bt (sW σ n) i && !(obit σ (sF σ n) i))))) = true := by
              revert c_726
              cases (bt (sW σ n) i) <;> cases (obit σ (sF σ n) i) <;> cases (bt (sW σ h) i) <;> simp
            rw [e] at hk
            exact hk
          · skip
            refine lv_iload hx hb dX4_lay_184 (lv_at hl 4 rfl) ?_
            refine z_if_eq (tgt := 198) hx hb dX4_lay_186 (by decide) (fun c_727 => ?_) (fun c_727 => ?_)
            · skip
              refine lv_iconst (v := b2i false) hx hb dX4_lay_198 (by decide +kernel) ?_
              have e : (((obit σ (sF σ n) i && !(bt (sW σ n) i)) || (bt (sW σ h) i && !(bt (sW σ n) i && !(obit σ (sF σ n) i))))) = false := by
                revert c_726 c_727
                cases (bt (sW σ n) i) <;> cases (obit σ (sF σ n) i) <;> cases (bt (sW σ h) i) <;> simp
              rw [e] at hk
              exact hk
            · skip
              refine lv_iload hx hb dX4_lay_189 (lv_at hl 2 rfl) ?_
              refine z_if_ne (tgt := 198) hx hb dX4_lay_191 (by decide) (fun c_728 => ?_) (fun c_728 => ?_)
              · skip
                refine lv_iconst (v := b2i false) hx hb dX4_lay_198 (by decide +kernel) ?_
                have e : (((obit σ (sF σ n) i && !(bt (sW σ n) i)) || (bt (sW σ h) i && !(bt (sW σ n) i && !(obit σ (sF σ n) i))))) = false := by
                  revert c_726 c_727 c_728
                  cases (bt (sW σ n) i) <;> cases (obit σ (sF σ n) i) <;> cases (bt (sW σ h) i) <;> simp
                rw [e] at hk
                exact hk
              · skip
                refine lv_iconst (v := b2i true) hx hb dX4_lay_194 (by decide +kernel) ?_
                refine lv_goto (tgt := 199) hx hb dX4_lay_195 (by decide) ?_
                have e : (((obit σ (sF σ n) i && !(bt (sW σ n) i)) || (bt (sW σ h) i && !(bt (sW σ n) i && !(obit σ (sF σ n) i))))) = true := by
                  revert c_726 c_727 c_728
                  cases (bt (sW σ n) i) <;> cases (obit σ (sF σ n) i) <;> cases (bt (sW σ h) i) <;> simp
                rw [e] at hk
                exact hk
        refine seg_725 ls hl ?_
        refine lv_i2b (v := b2i (((obit σ (sF σ n) i && !(bt (sW σ n) i)) || (bt (sW σ h) i && !(bt (sW σ n) i && !(obit σ (sF σ n) i)))))) hx hb dX4_lay_199 (b2i_b _) ?_
        refine k_bast (y := b2i (((obit σ (sF σ n) i && !(bt (sW σ n) i)) || (bt (sW σ h) i && !(bt (sW σ n) i && !(obit σ (sF σ n) i)))))) hx hb hK hM1.a7 hLB (hM1.ge (by omega)) (i) rfl (by omega) (by omega) (b2i_y _) dX4_lay_200 (fun H_729 locs_730 hw_731 hC_732 hLB_733 => ?_)
        have hM_734 := hM1.set (c := 7) (by omega) (by omega) (f := (upd ((va_up x 7 h1) 7) (i) (b2i (((obit σ (sF σ n) i && !(bt (sW σ n) i)) || (bt (sW σ h) i && !(bt (sW σ n) i && !(obit σ (sF σ n) i)))))))) hw_731 hC_732
        refine lv_iinc (v := nI (i + 1)) (lv' := [(6, .int (nI (i + 1))), (5, .int (b2i ((ch || ((obit σ (sF σ n) i && !(bt (sW σ n) i)) && !(bt (sW σ h) i)) || ((bt (sW σ n) i && !(obit σ (sF σ n) i)) && bt (sW σ h) i))))), (4, .int (b2i ((ca && (!(bt (sW σ n) i && !(obit σ (sF σ n) i)) || bt (sW σ h) i))))), (11, .int (b2i ((bt (sW σ n) i && !(obit σ (sF σ n) i))))), (10, .int (b2i ((obit σ (sF σ n) i && !(bt (sW σ n) i))))), (9, .int (b2i (bt (sW σ h) i))), (8, .int (b2i (obit σ (sF σ n) i))), (7, .int (b2i (bt (sW σ n) i))), (3, .int (nI n)), (0, .ref (μ 0)), (1, .int (nI h)), (2, .int ((-1) - nI n))]) hx hb dX4_lay_201 hl (k := 7) rfl (nI_add (i) 1) (by decide) rfl (fun ls hl => ?_)
        refine lv_goto (tgt := 21) hx hb dX4_lay_204 (by decide) ?_
        have hM2 : MC D g b0 μ (sV σ) (sB σ) nC (va_up x 7 (upd h1 i (b2i ((obit σ (sF σ n) i && !(bt (sW σ n) i)) || (bt (sW σ h) i && !(bt (sW σ n) i && !(obit σ (sF σ n) i))))))) H_729 := by
          have q := hM_734
          rw [up_eq, bx_uu] at q
          exact q
        refine ih (i + 1) H_729 locs_730 _ _ _ (by omega) (by omega) hM2 (hF.tr (MFr.chg (by omega) hC_732)) hLB_733 ?_ ?_ ?_ ls (lv_sub hl [0, 1, 2, 8, 9, 10, 11] rfl)
        · intro t ht
          by_cases e : t = i
          · subst e; rw [pk_us]
          · rw [pk_un e]; exact hv t (by omega)
        · rw [Bool.and_eq_true, hca]
          constructor
          · rintro ⟨q1, q2⟩ t ht f1 f2
            rcases Nat.lt_or_ge t i with z | z
            · exact q1 t z f1 f2
            · obtain rfl : t = i := by omega
              rw [f1, f2] at q2
              simpa using q2
          · intro q
            refine ⟨fun t ht => q t (by omega), ?_⟩
            have q3 := q i (by omega)
            revert q3
            cases (bt (sW σ n) i) <;> cases (obit σ (sF σ n) i) <;> cases (bt (sW σ h) i) <;> simp
        · rw [Bool.or_eq_true, Bool.or_eq_true, hch]
          constructor
          · rintro ((⟨t, t1, t2⟩ | q) | q)
            · exact ⟨t, by omega, t2⟩
            · refine ⟨i, by omega, Or.inl ?_⟩
              revert q
              cases (bt (sW σ n) i) <;> cases (obit σ (sF σ n) i) <;> cases (bt (sW σ h) i) <;> simp
            · refine ⟨i, by omega, Or.inr ?_⟩
              revert q
              cases (bt (sW σ n) i) <;> cases (obit σ (sF σ n) i) <;> cases (bt (sW σ h) i) <;> simp
          · rintro ⟨t, t1, t2⟩
            rcases Nat.lt_or_ge t i with z | z
            · exact Or.inl (Or.inl ⟨t, z, t2⟩)
            · obtain rfl : t = i := by omega
              rcases t2 with ⟨y1, y2, y3⟩ | ⟨y1, y2, y3⟩
              · exact Or.inl (Or.inr (by rw [y1, y2, y3]; rfl))
              · exact Or.inr (by rw [y1, y2, y3]; rfl)
  exact loop 4097 0 H [] (x 7) true false (by omega) (by omega) (by rw [up_self]; exact hM) MFr.rf LB.nil (fun t h => by omega) ⟨fun _ t h => absurd h (Nat.not_lt_zero _), fun _ => rfl⟩ ⟨fun z => (by cases z), fun ⟨t, h, _⟩ => absurd h (Nat.not_lt_zero _)⟩ ls (lv_sub hl [0, 1, 2, 3, 4, 5, 6] rfl)

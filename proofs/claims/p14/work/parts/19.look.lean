/-! 19: the reference: looking for conflicts (the walks are laid by wip/gen/mod19.py) -/
theorem cnt_crowd_le (p : Nat → Bool) : ∀ n, cnt (crowd p) (16 * n) ≤ 4 * n := by
  intro n
  induction n with
  | zero => exact Nat.le_refl _
  | succ n ih =>
    have e1 : cnt (crowd p) (16 * (n + 1)) = cnt (crowd p) (16 * n) + cnt (fun j => crowd p (16 * n + j)) 16 := cnt_add _ _ 16
    have e2 : cnt (fun j => crowd p (16 * n + j)) 16 = cnt (fun j => crowd p (16 * n + j)) 12 + cnt (fun j => crowd p (16 * n + (12 + j))) 4 := cnt_add _ 12 4
    have h1 : cnt (fun j => crowd p (16 * n + j)) 12 = 0 := cnt_0.mpr (fun j hj => crowd_no1 (by omega))
    have h2 := cnt_le (fun j => crowd p (16 * n + (12 + j))) 4
    omega
theorem cnt_crowd64 (p : Nat → Bool) : cnt (crowd p) 256 ≤ 64 := cnt_crowd_le p 16
def CK (p : Nat → Bool) (n : Nat) (x : Nat → Nat → Int32) : Prop := ∀ k, k < n → crowd p k = true → x 8 (cnt (crowd p) k) = nI k ∧
  (∃ o, o < 16 ∧ p (16 * k + o) = true ∧ (∀ o', o' < o → p (16 * k + o') = false) ∧ x 9 (cnt (crowd p) k) = nI (16 * k + o)) ∧
  ∃ o, o < 16 ∧ p (16 * k + o) = true ∧ (∀ o', o < o' → o' < 16 → p (16 * k + o') = false) ∧ x 10 (cnt (crowd p) k) = nI (16 * k + o)
theorem CK.no {p : Nat → Bool} {n : Nat} {x : Nat → Nat → Int32} (h : CK p n x) (hc : crowd p n = false) : CK p (n + 1) x := by
  intro k hk hk2
  rcases Nat.lt_or_ge k n with z | z
  · exact h k z hk2
  · rw [show k = n by omega, hc] at hk2; cases hk2
theorem CK.yes {p : Nat → Bool} {n : Nat} {x y : Nat → Nat → Int32} (h : CK p n x) (h8 : y 8 (cnt (crowd p) n) = nI n)
    (h9 : ∃ o, o < 16 ∧ p (16 * n + o) = true ∧ (∀ o', o' < o → p (16 * n + o') = false) ∧ y 9 (cnt (crowd p) n) = nI (16 * n + o))
    (h10 : ∃ o, o < 16 ∧ p (16 * n + o) = true ∧ (∀ o', o < o' → o' < 16 → p (16 * n + o') = false) ∧ y 10 (cnt (crowd p) n) = nI (16 * n + o))
    (ho : ∀ j, j < cnt (crowd p) n → y 8 j = x 8 j ∧ y 9 j = x 9 j ∧ y 10 j = x 10 j) : CK p (n + 1) y := by
  intro k hk hk2
  rcases Nat.lt_or_ge k n with z | z
  · obtain ⟨e8, e9, e10⟩ := ho _ (cnt_lt (crowd p) z hk2)
    rw [e8, e9, e10]
    exact h k z hk2
  · rw [show k = n by omega]; exact ⟨h8, h9, h10⟩
theorem CK.congr {p q : Nat → Bool} {x y : Nat → Nat → Int32} (h : CK p 256 x) (hp : ∀ t, t < 4096 → p t = q t) (hy : ∀ c, 8 ≤ c → y c = x c) : CK q 256 y := by
  intro k hk hk2
  have ec : ∀ n, n ≤ 256 → cnt (crowd q) n = cnt (crowd p) n := fun n hn => cnt_congr (fun j hj => (crowd_congr (by omega) (fun t ht => (hp t ht).symm)))
  have e : crowd p k = true := by rw [crowd_congr hk hp]; exact hk2
  obtain ⟨h8, ⟨o, o1, o2, o3, o4⟩, ⟨u, u1, u2, u3, u4⟩⟩ := h k hk e
  rw [ec k (by omega), hy 8 (by omega), hy 9 (by omega), hy 10 (by omega)]
  exact ⟨h8, ⟨o, o1, by rw [← hp _ (by omega)]; exact o2, fun o' h' => by rw [← hp _ (by omega)]; exact o3 o' h', o4⟩, ⟨u, u1, by rw [← hp _ (by omega)]; exact u2, fun o' h' h2 => by rw [← hp _ (by omega)]; exact u3 o' h' h2, u4⟩⟩
/-- within one key, from above down to j -/
def FI (p : Nat → Bool) (k j n : Nat) (f l : Int32) : Prop := n + cnt (fun o => p (16 * k + o)) j = cnt (fun o => p (16 * k + o)) 16 ∧
  ((n = 0 ∧ ∀ o, j ≤ o → o < 16 → p (16 * k + o) = false) ∨ (1 ≤ n ∧ (∃ o, j ≤ o ∧ o < 16 ∧ p (16 * k + o) = true ∧ (∀ o', j ≤ o' → o' < o → p (16 * k + o') = false) ∧ f = nI (16 * k + o)) ∧
    ∃ o, j ≤ o ∧ o < 16 ∧ p (16 * k + o) = true ∧ (∀ o', o < o' → o' < 16 → p (16 * k + o') = false) ∧ l = nI (16 * k + o)))
theorem FI.start {p : Nat → Bool} {k : Nat} {f l : Int32} : FI p k 16 0 f l := ⟨by omega, Or.inl ⟨rfl, fun o h1 h2 => by omega⟩⟩
theorem FI.no {p : Nat → Bool} {k j n : Nat} {f l : Int32} (h : FI p k (j + 1) n f l) (hq : p (16 * k + j) = false) : FI p k j n f l := by
  refine ⟨?_, ?_⟩
  · rw [← h.1, cnt_f (p := fun o => p (16 * k + o)) hq]
  · rcases h.2 with ⟨h1, h2⟩ | ⟨h1, ⟨o, o1, o2, o3, o4, o5⟩, ⟨u, u1, u2, u3, u4, u5⟩⟩
    · refine Or.inl ⟨h1, fun o g1 g2 => ?_⟩
      rcases Nat.lt_or_ge j o with z | z
      · exact h2 o z g2
      · rw [show o = j by omega]; exact hq
    · refine Or.inr ⟨h1, ⟨o, by omega, o2, o3, fun o' g1 g2 => ?_, o5⟩, ⟨u, by omega, u2, u3, u4, u5⟩⟩
      rcases Nat.lt_or_ge j o' with z | z
      · exact o4 o' z g2
      · rw [show o' = j by omega]; exact hq
theorem FI.yes {p : Nat → Bool} {k j n : Nat} {f l l' : Int32} (hj : j < 16) (h : FI p k (j + 1) n f l) (hq : p (16 * k + j) = true) (h1 : n + 1 = 1 → l' = nI (16 * k + j)) (h2 : ¬ n + 1 = 1 → l' = l) : FI p k j (n + 1) (nI (16 * k + j)) l' := by
  refine ⟨?_, Or.inr ⟨by omega, ⟨j, Nat.le_refl _, hj, hq, fun o' g1 g2 => by omega, rfl⟩, ?_⟩⟩
  · have := cnt_t (p := fun o => p (16 * k + o)) hq
    have := h.1
    omega
  · rcases h.2 with ⟨g1, g2⟩ | ⟨g1, -, ⟨u, u1, u2, u3, u4, u5⟩⟩
    · exact ⟨j, Nat.le_refl _, hj, hq, fun o' y1 y2 => g2 o' y1 y2, h1 (by omega)⟩
    · exact ⟨u, by omega, u2, u3, u4, by rw [h2 (by omega)]; exact u5⟩
set_option maxHeartbeats 4000000 in
set_option maxRecDepth 100000 in
/-- look() -/
theorem c_X4_look (l : Launch) (D : va_G) (g : Nat → ClassId) (b0 : Nat) (H : Heap) (μ : Nat → Nat) (nV nB nC : Nat) (x : Nat → Nat → Int32) (hM : MC D g b0 μ nV nB nC x H) (hV4 : nV ≤ 400) (hB4 : nB ≤ 40) (hC4 : nC ≤ 64) (pb : Nat → Bool) (hh : ∀ t, t < 4096 → x 7 t = b2i (pb t)) : Met l yX4_look wsX4_look ({ frames := 0, cells := 0, slots := 0, locals := 0 } : Room) (kPc D g [.ref (μ 0)] H) (kU (fun H1 => ∃ x1 : Nat → Nat → Int32, MC D g b0 μ nV nB (cnt (crowd pb) 256) x1 H1 ∧ MFr μ H H1 ∧ (∀ c, c < 8 → x1 c = x c) ∧ CK pb 256 x1)) 0 0 (kF b0) := by
  refine Met.ofW (cc := cX4_look) (maxL := 6) (ret := none) (by decide) rfl ?_
  intro p e s m args below meth c s₁ B hml hv
  obtain ⟨rfl, hH, hK⟩ := hv
  have hx := B.exec
  have hb := B.bytes
  have hr := B.returns
  have hts := atoms_spec (ws := wsX4_look) B.pre
  have hown : s.vm.findClass RX4 = some m.cls := findClass_of_methodNamed B.named
  have hlocks := B.notSynchronized
  rw [hH]
  have hl := lv_entry ([.ref (μ 0)]) (n := 6) (Nat.le_of_ble_eq_true rfl)
  rw [lg_entry_eq]
  generalize (lg_sl ([.ref (μ 0)]) ++ List.replicate (6 - (lg_sl ([.ref (μ 0)])).length) Slot.unset).toArray = ls at hl ⊢
  have hl : lv_has ls 6 [(0, .ref (μ 0))] := hl
  have h64 := cnt_crowd64 pb
  refine lv_aload_n hx hb dX4_look_0 rfl (lv_at hl 0 rfl) ?_
  refine lv_iconst (v := nI 0) hx hb dX4_look_1 (by decide +kernel) ?_
  refine k_put (ci := 4) (T := TX4) (N := 13) (v := .int (nI 0)) hx hb hts (by decide +kernel) tyX4 tyX4_ok nmX4 hown hK hM.o LB.nil (hM.ge (by omega)) rfl 12 (by decide) rfl (hts (.fieldLink RX4 90 RX4 "conflicts" "I") (by decide +kernel)) rfl (ty := .int) (by decide +kernel) rfl rfl (Nat.le_of_ble_eq_true rfl) dX4_look_2 (fun H_735 locs_736 ho_737 hC_738 hLB_739 => ?_)
  have hM_740 := hM.num (nV' := nV) (nB' := nB) (nC' := 0) ho_737 hC_738
  refine lv_iconst (v := nI 0) hx hb dX4_look_5 (by decide +kernel) ?_
  refine lv_istore_n (lv' := [(1, .int (nI 0)), (0, .ref (μ 0))]) hx hb dX4_look_6 rfl hl (by decide) rfl (fun ls hl => ?_)
  have loop : ∀ (N i : Nat) (H1 : Heap) (locs1 : List Loc) (x1 : Nat → Nat → Int32), 256 < i + N → i ≤ 256 → MC D g b0 μ nV nB (cnt (crowd pb) i) x1 H1 → MFr μ H H1 → LB b0 locs1 → (∀ c, c < 8 → x1 c = x c) → CK pb i x1 → ∀ ls, lv_has ls 6 [(1, .int (nI i)), (0, .ref (μ 0))] → W p l e (headSpec wsX4_look ({ frames := 0, cells := 0, slots := 0, locals := 0 } : Room)).room s m ([.ref (μ 0)] : List Value).toArray below meth c H1 locs1 0 0 (MQ below (kU (fun H1 => ∃ x1 : Nat → Nat → Int32, MC D g b0 μ nV nB (cnt (crowd pb) 256) x1 H1 ∧ MFr μ H H1 ∧ (∀ c, c < 8 → x1 c = x c) ∧ CK pb 256 x1)) ([.ref (μ 0)] : List Value).toArray s 0 0 (kF b0)) (F0 m 7 ls []) := by
    intro N
    induction N with
    | zero => intro i H1 locs1 x1 h0 h1; omega
    | succ N ih =>
      intro i H1 locs1 x1 hN hi hM1 hF hLB hx1 hck ls hl
      have hci := cnt_mono (crowd pb) hi
      refine lv_iload_n hx hb dX4_look_7 rfl (lv_at hl 0 rfl) ?_
      refine lv_sipush (v := nI 256) hx hb dX4_look_8 (by decide +kernel) ?_
      refine n_icmp_ge (tgt := 140) hx hb dX4_look_11 (by decide) (by omega) (by omega) (fun c_741 => ?_) (fun c_741 => ?_)
      · skip
        obtain rfl : i = 256 := by omega
        exact r_vU hx hb hr hLB (Nat.le_refl _) (Nat.le_refl _) ⟨x1, hM1, hF, hx1, hck⟩ dX4_look_140 hlocks
      · skip
        refine lv_iload_n hx hb dX4_look_14 rfl (lv_at hl 0 rfl) ?_
        refine lv_bipush (v := nI 15) hx hb dX4_look_15 (by decide +kernel) ?_
        refine lv_iand hx hb dX4_look_17 ?_
        refine lv_topi (nm_r (show (nI i) &&& (nI 15) = nI (i % 16) from pk_andN (by omega) 4 (by decide +kernel)) ?_)
        refine lv_bipush (v := nI 12) hx hb dX4_look_18 (by decide +kernel) ?_
        refine n_icmp_ge (tgt := 26) hx hb dX4_look_20 (by decide) (by omega) (by omega) (fun c_742 => ?_) (fun c_742 => ?_)
        · skip
          refine lv_iconst (v := nI 0) hx hb dX4_look_26 (by decide +kernel) ?_
          refine lv_istore_n (lv' := [(2, .int (nI 0)), (1, .int (nI i)), (0, .ref (μ 0))]) hx hb dX4_look_27 rfl hl (by decide) rfl (fun ls hl => ?_)
          refine lv_iconst (v := nI 0) hx hb dX4_look_28 (by decide +kernel) ?_
          refine lv_istore_n (lv' := [(3, .int (nI 0)), (2, .int (nI 0)), (1, .int (nI i)), (0, .ref (μ 0))]) hx hb dX4_look_29 rfl hl (by decide) rfl (fun ls hl => ?_)
          refine lv_iconst (v := nI 0) hx hb dX4_look_30 (by decide +kernel) ?_
          refine lv_istore (lv' := [(4, .int (nI 0)), (3, .int (nI 0)), (2, .int (nI 0)), (1, .int (nI i)), (0, .ref (μ 0))]) hx hb dX4_look_31 hl (by decide) rfl (fun ls hl => ?_)
          refine lv_bipush (v := nI 15) hx hb dX4_look_33 (by decide +kernel) ?_
          refine lv_istore (lv' := [(5, .int (nI 15)), (4, .int (nI 0)), (3, .int (nI 0)), (2, .int (nI 0)), (1, .int (nI i)), (0, .ref (μ 0))]) hx hb dX4_look_35 hl (by decide) rfl (fun ls hl => ?_)
          have inner : ∀ (j n : Nat) (y fv lv : Int32), j ≤ 16 → y = nI j - 1 → FI pb i j n fv lv → ∀ ls, lv_has ls 6 [(5, .int y), (4, .int lv), (3, .int fv), (2, .int (nI n)), (1, .int (nI i)), (0, .ref (μ 0))] → W p l e (headSpec wsX4_look ({ frames := 0, cells := 0, slots := 0, locals := 0 } : Room)).room s m ([.ref (μ 0)] : List Value).toArray below meth c H1 locs1 0 0 (MQ below (kU (fun H1 => ∃ x1 : Nat → Nat → Int32, MC D g b0 μ nV nB (cnt (crowd pb) 256) x1 H1 ∧ MFr μ H H1 ∧ (∀ c, c < 8 → x1 c = x c) ∧ CK pb 256 x1)) ([.ref (μ 0)] : List Value).toArray s 0 0 (kF b0)) (F0 m 37 ls []) := by
            intro j
            induction j with
            | zero =>
              intro n y fv lv hj hy hfi ls hl
              have hn16 := cnt_le (fun o => pb (16 * i + o)) 16
              have hfi1 := hfi.1
              have z0 : cnt (fun o => pb (16 * i + o)) 0 = 0 := rfl
              obtain rfl : y = -1 := hy.trans (by decide +kernel)
              refine lv_iload hx hb dX4_look_37 (lv_at hl 0 rfl) ?_
              refine lv_if_lt (tgt := 85) hx hb dX4_look_39 (by decide) (fun _ => ?_) (fun q => absurd (by decide) q)
              refine lv_iload_n hx hb dX4_look_85 rfl (lv_at hl 3 rfl) ?_
              refine lv_iconst (v := nI 2) hx hb dX4_look_86 (by decide +kernel) ?_
              refine n_icmp_ge (tgt := 93) hx hb dX4_look_87 (by decide) (by omega) (by omega) (fun c_743 => ?_) (fun c_743 => ?_)
              · skip
                have hcr : crowd pb i = true := crowd_yes rfl (by omega) (by show 2 ≤ cnt (fun o => pb (16 * i + o)) 16; omega)
                have hlt := cnt_lt (crowd pb) (show i < 256 by omega) hcr
                refine lv_aload_n hx hb dX4_look_93 rfl (lv_at hl 5 rfl) ?_
                refine k_get (ci := 4) (C := RX4) (T := TX4) (N := 13) (v := .ref (μ 8)) hx hb hts (by decide +kernel) hown hK hM1.o rfl 9 (by decide) rfl (hts (.fieldLink RX4 34 RX4 "keys" "[I") (by decide +kernel)) rfl dX4_look_94 ?_
                refine lv_aload_n hx hb dX4_look_97 rfl (lv_at hl 5 rfl) ?_
                refine k_get (ci := 4) (C := RX4) (T := TX4) (N := 13) (v := .int (nI ((cnt (crowd pb) i)))) hx hb hts (by decide +kernel) hown hK hM1.o rfl 12 (by decide) rfl (hts (.fieldLink RX4 90 RX4 "conflicts" "I") (by decide +kernel)) rfl dX4_look_98 ?_
                refine lv_iload_n hx hb dX4_look_101 rfl (lv_at hl 4 rfl) ?_
                refine k_iast hx hb hK hM1.a8 hLB (hM1.ge (by omega)) ((cnt (crowd pb) i)) rfl (by omega) (by omega) dX4_look_102 (fun H_744 locs_745 hw_746 hC_747 hLB_748 => ?_)
                have hM_749 := hM1.set (c := 8) (by omega) (by omega) (f := (upd (x1 8) ((cnt (crowd pb) i)) (nI i))) hw_746 hC_747
                refine lv_aload_n hx hb dX4_look_103 rfl (lv_at hl 5 rfl) ?_
                refine k_get (ci := 4) (C := RX4) (T := TX4) (N := 13) (v := .ref (μ 9)) hx hb hts (by decide +kernel) hown hK hM_749.o rfl 10 (by decide) rfl (hts (.fieldLink RX4 37 RX4 "least" "[I") (by decide +kernel)) rfl dX4_look_104 ?_
                refine lv_aload_n hx hb dX4_look_107 rfl (lv_at hl 5 rfl) ?_
                refine k_get (ci := 4) (C := RX4) (T := TX4) (N := 13) (v := .int (nI ((cnt (crowd pb) i)))) hx hb hts (by decide +kernel) hown hK hM_749.o rfl 12 (by decide) rfl (hts (.fieldLink RX4 90 RX4 "conflicts" "I") (by decide +kernel)) rfl dX4_look_108 ?_
                refine lv_iload_n hx hb dX4_look_111 rfl (lv_at hl 2 rfl) ?_
                refine k_iast hx hb hK hM_749.a9 hLB_748 (hM_749.ge (by omega)) ((cnt (crowd pb) i)) rfl (by omega) (by omega) dX4_look_112 (fun H_750 locs_751 hw_752 hC_753 hLB_754 => ?_)
                have hM_755 := hM_749.set (c := 9) (by omega) (by omega) (f := (upd ((va_up x1 8 (upd (x1 8) ((cnt (crowd pb) i)) (nI i))) 9) ((cnt (crowd pb) i)) (fv))) hw_752 hC_753
                refine lv_aload_n hx hb dX4_look_113 rfl (lv_at hl 5 rfl) ?_
                refine k_get (ci := 4) (C := RX4) (T := TX4) (N := 13) (v := .ref (μ 10)) hx hb hts (by decide +kernel) hown hK hM_755.o rfl 11 (by decide) rfl (hts (.fieldLink RX4 40 RX4 "greatest" "[I") (by decide +kernel)) rfl dX4_look_114 ?_
                refine lv_aload_n hx hb dX4_look_117 rfl (lv_at hl 5 rfl) ?_
                refine k_get (ci := 4) (C := RX4) (T := TX4) (N := 13) (v := .int (nI ((cnt (crowd pb) i)))) hx hb hts (by decide +kernel) hown hK hM_755.o rfl 12 (by decide) rfl (hts (.fieldLink RX4 90 RX4 "conflicts" "I") (by decide +kernel)) rfl dX4_look_118 ?_
                refine lv_iload hx hb dX4_look_121 (lv_at hl 1 rfl) ?_
                refine k_iast hx hb hK hM_755.a10 hLB_754 (hM_755.ge (by omega)) ((cnt (crowd pb) i)) rfl (by omega) (by omega) dX4_look_123 (fun H_756 locs_757 hw_758 hC_759 hLB_760 => ?_)
                have hM_761 := hM_755.set (c := 10) (by omega) (by omega) (f := (upd ((va_up (va_up x1 8 (upd (x1 8) ((cnt (crowd pb) i)) (nI i))) 9 (upd ((va_up x1 8 (upd (x1 8) ((cnt (crowd pb) i)) (nI i))) 9) ((cnt (crowd pb) i)) (fv))) 10) ((cnt (crowd pb) i)) (lv))) hw_758 hC_759
                refine lv_aload_n hx hb dX4_look_124 rfl (lv_at hl 5 rfl) ?_
                refine lv_dup hx hb dX4_look_125 rfl ?_
                refine k_get (ci := 4) (C := RX4) (T := TX4) (N := 13) (v := .int (nI ((cnt (crowd pb) i)))) hx hb hts (by decide +kernel) hown hK hM_761.o rfl 12 (by decide) rfl (hts (.fieldLink RX4 90 RX4 "conflicts" "I") (by decide +kernel)) rfl dX4_look_126 ?_
                refine lv_iconst (v := nI 1) hx hb dX4_look_129 (by decide +kernel) ?_
                refine lv_iadd hx hb dX4_look_130 ?_
                refine lv_topi (nm_r (show (nI ((cnt (crowd pb) i))) + (nI 1) = nI ((cnt (crowd pb) i) + 1) from nI_add _ _) ?_)
                refine k_put (ci := 4) (T := TX4) (N := 13) (v := .int (nI ((cnt (crowd pb) i) + 1))) hx hb hts (by decide +kernel) tyX4 tyX4_ok nmX4 hown hK hM_761.o hLB_760 (hM_761.ge (by omega)) rfl 12 (by decide) rfl (hts (.fieldLink RX4 90 RX4 "conflicts" "I") (by decide +kernel)) rfl (ty := .int) (by decide +kernel) rfl rfl (Nat.le_of_ble_eq_true rfl) dX4_look_131 (fun H_762 locs_763 ho_764 hC_765 hLB_766 => ?_)
                have hM_767 := hM_761.num (nV' := nV) (nB' := nB) (nC' := (cnt (crowd pb) i) + 1) ho_764 hC_765
                refine lv_iinc (v := nI (i + 1)) (lv' := [(1, .int (nI (i + 1))), (5, .int ((-1))), (4, .int (lv)), (3, .int (fv)), (2, .int (nI n)), (0, .ref (μ 0))]) hx hb dX4_look_134 hl (k := 4) rfl (nI_add (i) 1) (by decide) rfl (fun ls hl => ?_)
                refine lv_goto (tgt := 7) hx hb dX4_look_137 (by decide) ?_
                refine ih (i + 1) H_762 locs_763 _ (by omega) (by omega) (by rw [cnt_t hcr]; exact hM_767) ((((hF.tr (MFr.chg (by omega) hC_747)).tr (MFr.chg (by omega) hC_753)).tr (MFr.chg (by omega) hC_759)).tr (MFr.chg (by omega) hC_765)) hLB_766 ?_ ?_ ls (lv_sub hl [0, 5] rfl)
                · intro c hc
                  rw [up_ne _ _ (by omega), up_ne _ _ (by omega), up_ne _ _ (by omega)]
                  exact hx1 c hc
                · refine hck.yes ?_ ?_ ?_ ?_
                  · rw [up_ne _ _ (by omega), up_ne _ _ (by omega), up_eq, pk_us]
                  · rw [up_ne _ _ (by omega), up_eq, pk_us]
                    rcases hfi.2 with ⟨z, -⟩ | ⟨-, ⟨o, -, o2, o3, o4, o5⟩, -⟩
                    · omega
                    · exact ⟨o, o2, o3, fun o' z => o4 o' (Nat.zero_le _) z, o5⟩
                  · rw [up_eq, pk_us]
                    rcases hfi.2 with ⟨z, -⟩ | ⟨-, -, ⟨o, -, o2, o3, o4, o5⟩⟩
                    · omega
                    · exact ⟨o, o2, o3, o4, o5⟩
                  · intro j hj
                    refine ⟨?_, ?_, ?_⟩
                    · rw [up_ne _ _ (by omega), up_ne _ _ (by omega), up_eq, pk_un (by omega)]
                    · rw [up_ne _ _ (by omega), up_eq, pk_un (by omega), up_ne _ _ (by omega)]
                    · rw [up_eq, pk_un (by omega), up_ne _ _ (by omega), up_ne _ _ (by omega)]
              · skip
                refine lv_goto (tgt := 134) hx hb dX4_look_90 (by decide) ?_
                refine lv_iinc (v := nI (i + 1)) (lv' := [(1, .int (nI (i + 1))), (5, .int ((-1))), (4, .int (lv)), (3, .int (fv)), (2, .int (nI n)), (0, .ref (μ 0))]) hx hb dX4_look_134 hl (k := 4) rfl (nI_add (i) 1) (by decide) rfl (fun ls hl => ?_)
                refine lv_goto (tgt := 7) hx hb dX4_look_137 (by decide) ?_
                have hcr : crowd pb i = false := crowd_no2 rfl (by have := hfi.1; show cnt (fun o => pb (16 * i + o)) 16 < 2; have z0 : cnt (fun o => pb (16 * i + o)) 0 = 0 := rfl; omega)
                exact ih (i + 1) H1 locs1 x1 (by omega) (by omega) (by rw [cnt_f hcr]; exact hM1) hF hLB hx1 (hck.no hcr) ls (lv_sub hl [0, 5] rfl)
            | succ j ihj =>
              intro n y fv lv hj hy hfi ls hl
              have hn16 := cnt_le (fun o => pb (16 * i + o)) 16
              have hfi1 := hfi.1
              obtain rfl : y = nI j := hy.trans (nI_pred j)
              refine lv_iload hx hb dX4_look_37 (lv_at hl 0 rfl) ?_
              refine n_if_lt (tgt := 85) hx hb dX4_look_39 (by decide) (by omega) ?_
              refine lv_aload_n hx hb dX4_look_42 rfl (lv_at hl 5 rfl) ?_
              refine k_get (ci := 4) (C := RX4) (T := TX4) (N := 13) (v := .ref (μ 7)) hx hb hts (by decide +kernel) hown hK hM1.o rfl 8 (by decide) rfl (hts (.fieldLink RX4 31 RX4 "hand" "[B") (by decide +kernel)) rfl dX4_look_43 ?_
              refine lv_bipush (v := nI 16) hx hb dX4_look_46 (by decide +kernel) ?_
              refine lv_iload_n hx hb dX4_look_48 rfl (lv_at hl 4 rfl) ?_
              refine lv_imul hx hb dX4_look_49 ?_
              refine lv_topi (nm_r (show (nI 16) * (nI i) = nI (16 * (i)) from pk_mul _ _) ?_)
              refine lv_iload hx hb dX4_look_50 (lv_at hl 0 rfl) ?_
              refine lv_iadd hx hb dX4_look_52 ?_
              refine lv_topi (nm_r (show (nI (16 * (i))) + (nI j) = nI (16 * (i) + j) from nI_add _ _) ?_)
              refine k_bald hx hb hK hM1.a7 (16 * (i) + j) rfl (by omega) (by omega) dX4_look_53 ?_
              rw [show x1 7 (16 * (i) + j) = b2i (pb (16 * i + j)) from (by rw [hx1 7 (by omega)]; exact hh _ (by omega))]
              refine z_if_ne (tgt := 60) hx hb dX4_look_54 (by decide) (fun c_769 => ?_) (fun c_769 => ?_)
              · skip
                refine lv_iinc (v := nI (n + 1)) (lv' := [(2, .int (nI (n + 1))), (5, .int (nI j)), (4, .int (lv)), (3, .int (fv)), (1, .int (nI i)), (0, .ref (μ 0))]) hx hb dX4_look_60 hl (k := 3) rfl (nI_add (n) 1) (by decide) rfl (fun ls hl => ?_)
                refine lv_bipush (v := nI 16) hx hb dX4_look_63 (by decide +kernel) ?_
                refine lv_iload_n hx hb dX4_look_65 rfl (lv_at hl 4 rfl) ?_
                refine lv_imul hx hb dX4_look_66 ?_
                refine lv_topi (nm_r (show (nI 16) * (nI i) = nI (16 * (i)) from pk_mul _ _) ?_)
                refine lv_iload hx hb dX4_look_67 (lv_at hl 1 rfl) ?_
                refine lv_iadd hx hb dX4_look_69 ?_
                refine lv_topi (nm_r (show (nI (16 * (i))) + (nI j) = nI (16 * (i) + j) from nI_add _ _) ?_)
                refine lv_istore_n (lv' := [(3, .int (nI (16 * (i) + j))), (2, .int (nI (n + 1))), (5, .int (nI j)), (4, .int (lv)), (1, .int (nI i)), (0, .ref (μ 0))]) hx hb dX4_look_70 rfl hl (by decide) rfl (fun ls hl => ?_)
                refine lv_iload_n hx hb dX4_look_71 rfl (lv_at hl 1 rfl) ?_
                refine lv_iconst (v := nI 1) hx hb dX4_look_72 (by decide +kernel) ?_
                refine n_icmp_ne (tgt := 79) hx hb dX4_look_73 (by decide) (by omega) (by omega) (fun c_770 => ?_) (fun c_770 => ?_)
                · skip
                  refine lv_iinc (v := (nI j) + -1) (lv' := [(5, .int ((nI j) + -1)), (3, .int (nI (16 * (i) + j))), (2, .int (nI (n + 1))), (4, .int (lv)), (1, .int (nI i)), (0, .ref (μ 0))]) hx hb dX4_look_79 hl (k := 2) rfl rfl (by decide) rfl (fun ls hl => ?_)
                  refine lv_goto (tgt := 37) hx hb dX4_look_82 (by decide) ?_
                  exact ihj (n + 1) _ _ lv (by omega) (Int32.sub_eq_add_neg _ _).symm (hfi.yes (by omega) c_769 (fun z => absurd z c_770) (fun _ => rfl)) ls (lv_sub hl [0, 3, 1, 2, 4, 5] rfl)
                · skip
                  refine lv_iload_n hx hb dX4_look_76 rfl (lv_at hl 0 rfl) ?_
                  refine lv_istore (lv' := [(4, .int (nI (16 * (i) + j))), (3, .int (nI (16 * (i) + j))), (2, .int (nI (n + 1))), (5, .int (nI j)), (1, .int (nI i)), (0, .ref (μ 0))]) hx hb dX4_look_77 hl (by decide) rfl (fun ls hl => ?_)
                  refine lv_iinc (v := (nI j) + -1) (lv' := [(5, .int ((nI j) + -1)), (4, .int (nI (16 * (i) + j))), (3, .int (nI (16 * (i) + j))), (2, .int (nI (n + 1))), (1, .int (nI i)), (0, .ref (μ 0))]) hx hb dX4_look_79 hl (k := 3) rfl rfl (by decide) rfl (fun ls hl => ?_)
                  refine lv_goto (tgt := 37) hx hb dX4_look_82 (by decide) ?_
                  exact ihj (n + 1) _ _ _ (by omega) (Int32.sub_eq_add_neg _ _).symm (hfi.yes (by omega) c_769 (fun _ => rfl) (fun z => absurd c_770 z)) ls (lv_sub hl [0, 1, 2, 3, 4, 5] rfl)
              · skip
                refine lv_goto (tgt := 79) hx hb dX4_look_57 (by decide) ?_
                refine lv_iinc (v := (nI j) + -1) (lv' := [(5, .int ((nI j) + -1)), (4, .int (lv)), (3, .int (fv)), (2, .int (nI n)), (1, .int (nI i)), (0, .ref (μ 0))]) hx hb dX4_look_79 hl (k := 0) rfl rfl (by decide) rfl (fun ls hl => ?_)
                refine lv_goto (tgt := 37) hx hb dX4_look_82 (by decide) ?_
                exact ihj n _ fv lv (by omega) (Int32.sub_eq_add_neg _ _).symm (hfi.no c_769) ls (lv_sub hl [0, 1, 2, 3, 4, 5] rfl)
          exact inner 16 0 _ _ _ (Nat.le_refl _) (nI_pred 15).symm FI.start ls (lv_sub hl [0, 1, 2, 3, 4, 5] rfl)
        · skip
          refine lv_goto (tgt := 134) hx hb dX4_look_23 (by decide) ?_
          refine lv_iinc (v := nI (i + 1)) (lv' := [(1, .int (nI (i + 1))), (0, .ref (μ 0))]) hx hb dX4_look_134 hl (k := 0) rfl (nI_add (i) 1) (by decide) rfl (fun ls hl => ?_)
          refine lv_goto (tgt := 7) hx hb dX4_look_137 (by decide) ?_
          have hcr : crowd pb i = false := crowd_no1 (by omega)
          exact ih (i + 1) H1 locs1 x1 (by omega) (by omega) (by rw [cnt_f hcr]; exact hM1) hF hLB hx1 (hck.no hcr) ls (lv_sub hl [0, 1] rfl)
  exact loop 257 0 H_735 locs_736 x (by omega) (by omega) hM_740 (MFr.chg (by omega) hC_738) hLB_739 (fun _ _ => rfl) (fun k hk => absurd hk (Nat.not_lt_zero _)) ls (lv_sub hl [0, 1] rfl)

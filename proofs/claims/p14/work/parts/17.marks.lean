/-! 17: the reference holds a state; marks, the greatest common one, laying (the walks are laid by wip/gen/mod17.py) -/
def MR (σ : SG) (x : Nat → Nat → Int32) : Prop := WF σ ∧ (∀ v t, v < sV σ → t < 4096 → x 1 (4096 * v + t) = b2i (bt (sW σ v) t)) ∧ (∀ v, v < sV σ → x 2 v = pI (sF σ v)) ∧ (∀ v, v < sV σ → x 3 v = pI (sS σ v)) ∧ ∀ b, b < sB σ → x 4 b = nI (sH σ b)
def obit (σ : SG) (o : Option Nat) (t : Nat) : Bool := match o with
  | none => false
  | some v => bt (sW σ v) t
theorem MR.has {σ : SG} {x : Nat → Nat → Int32} (h : MR σ x) {o : Option Nat} (ho : OLt o (sV σ)) {t : Nat} (ht : t < 4096) : HasO x o t (obit σ o t) := by
  cases o with
  | none => exact rfl
  | some v =>
    have hv := ho v rfl
    have := h.1.2.1
    exact ⟨by omega, h.2.1 v t hv ht⟩
theorem HasO.up {x : Nat → Nat → Int32} {o : Option Nat} {t : Nat} {b : Bool} (h : HasO x o t b) {c : Nat} (hc : c ≠ 1) (f : Nat → Int32) : HasO (va_up x c f) o t b := by
  cases o with
  | none => exact h
  | some v => exact ⟨h.1, by rw [up_ne _ _ (Ne.symm hc)]; exact h.2⟩
theorem MR.up {σ : SG} {x : Nat → Nat → Int32} (h : MR σ x) {c : Nat} (hc : 5 ≤ c) (f : Nat → Int32) : MR σ (va_up x c f) := by
  refine ⟨h.1, ?_, ?_, ?_, ?_⟩
  · rw [up_ne _ _ (by omega)]; exact h.2.1
  · rw [up_ne _ _ (by omega)]; exact h.2.2.1
  · rw [up_ne _ _ (by omega)]; exact h.2.2.2.1
  · rw [up_ne _ _ (by omega)]; exact h.2.2.2.2
theorem MR.head {σ : SG} {x : Nat → Nat → Int32} (h : MR σ x) {b v : Nat} (hv : v < sV σ) : MR (gHead σ b v) (va_up x 4 (upd (x 4) b (nI v))) := by
  refine ⟨h.1.head hv, ?_, ?_, ?_, ?_⟩
  · rw [up_ne _ _ (by omega)]; exact h.2.1
  · rw [up_ne _ _ (by omega)]; exact h.2.2.1
  · rw [up_ne _ _ (by omega)]; exact h.2.2.2.1
  · intro b' hb
    rw [up_eq]
    show upd (x 4) b (nI v) b' = nI (va_up (sH σ) b v b')
    by_cases e : b' = b
    · subst e; rw [pk_us, up_eq]
    · rw [pk_un e, up_ne _ _ e]; exact h.2.2.2.2 b' hb
theorem MR.br {σ : SG} {x : Nat → Nat → Int32} (h : MR σ x) {v : Nat} (hB : sB σ < 40) (hv : v < sV σ) : MR (gBr σ v) (va_up x 4 (upd (x 4) (sB σ) (nI v))) := by
  refine ⟨h.1.br hB hv, ?_, ?_, ?_, ?_⟩
  · rw [up_ne _ _ (by omega)]; exact h.2.1
  · rw [up_ne _ _ (by omega)]; exact h.2.2.1
  · rw [up_ne _ _ (by omega)]; exact h.2.2.2.1
  · intro b' hb
    have hb : b' < sB σ + 1 := hb
    rw [up_eq]
    show upd (x 4) (sB σ) (nI v) b' = nI (va_up (sH σ) (sB σ) v b')
    by_cases e : b' = sB σ
    · subst e; rw [pk_us, up_eq]
    · rw [pk_un e, up_ne _ _ e]; exact h.2.2.2.2 b' (by omega)
theorem MR.grow {σ : SG} {x : Nat → Nat → Int32} (h : MR σ x) {f s : Option Nat} {w : Nat → Int64} {an : Nat → Bool} {s1 : Nat → Int32} (hV : sV σ < 400) (hf : OLt f (sV σ)) (hs : OLt s (sV σ)) (ha : AnOK σ (sV σ) f s an) (h1 : ∀ t, t < 4096 → s1 (4096 * sV σ + t) = b2i (bt w t)) (h2 : ∀ j, j < 4096 * sV σ → s1 j = x 1 j) :
    MR (gGrow σ f s w an) (va_up (va_up (va_up x 2 (upd (x 2) (sV σ) (pI f))) 3 (upd (x 3) (sV σ) (pI s))) 1 s1) := by
  refine ⟨h.1.grow hV hf hs ha, ?_, ?_, ?_, ?_⟩
  · intro v t hv ht
    have hv : v < sV σ + 1 := hv
    rw [up_eq]
    show s1 _ = b2i (bt (va_up (sW σ) (sV σ) w v) t)
    by_cases e : v = sV σ
    · subst e; rw [up_eq]; exact h1 t ht
    · rw [up_ne _ _ e, h2 _ (by omega)]; exact h.2.1 v t (by omega) ht
  · intro v hv
    have hv : v < sV σ + 1 := hv
    rw [up_ne _ _ (by omega), up_ne _ _ (by omega), up_eq]
    show upd (x 2) (sV σ) (pI f) v = pI (va_up (sF σ) (sV σ) f v)
    by_cases e : v = sV σ
    · subst e; rw [pk_us, up_eq]
    · rw [pk_un e, up_ne _ _ e]; exact h.2.2.1 v (by omega)
  · intro v hv
    have hv : v < sV σ + 1 := hv
    rw [up_ne _ _ (by omega), up_eq]
    show upd (x 3) (sV σ) (pI s) v = pI (va_up (sS σ) (sV σ) s v)
    by_cases e : v = sV σ
    · subst e; rw [pk_us, up_eq]
    · rw [pk_un e, up_ne _ _ e]; exact h.2.2.2.1 v (by omega)
  · intro b hb
    rw [up_ne _ _ (by omega), up_ne _ _ (by omega), up_ne _ _ (by omega)]
    exact h.2.2.2.2 b hb
/-- ancestors the other way round -/
theorem WF.back {σ : SG} (h : WF σ) {k : Nat} (hk : k < sV σ) {p j : Nat} (hj : j < p) (hp : sF σ p = some j ∨ sS σ p = some j) (hpa : sA σ k p = true) (hp4 : p < sV σ) : sA σ k j = true := by
  have hV := h.2.1
  have key : ∀ n k, k < n → k < sV σ → sA σ k p = true → sA σ k j = true := by
    intro n
    induction n with
    | zero => intro k h0; omega
    | succ n ih =>
      intro k hn hk hpa
      obtain ⟨q1, q2, q3⟩ := h.2.2.2.2.2 k hk
      rw [q3 p (by omega), Bool.or_eq_true, Bool.or_eq_true] at hpa
      rw [q3 j (by omega), Bool.or_eq_true, Bool.or_eq_true]
      have hself : sA σ j j = true := h.self (by omega)
      have step : ∀ o : Option Nat, OLt o k → anO σ o p = true → anO σ o j = true := by
        intro o ho h1
        cases o with
        | none => cases h1
        | some q => have := ho q rfl; exact ih q (by omega) (by omega) h1
      rcases hpa with (hpa | hpa) | hpa
      · have e : p = k := of_decide_eq_true hpa
        subst e
        rcases hp with hp | hp
        · exact Or.inl (Or.inr (by rw [hp]; exact hself))
        · exact Or.inr (by rw [hp]; exact hself)
      · exact Or.inl (Or.inr (step _ q1 hpa))
      · exact Or.inr (step _ q2 hpa)
  exact key (k + 1) k (by omega) hk hpa
theorem WF.char {σ : SG} (h : WF σ) {k : Nat} (hk : k < sV σ) {j : Nat} (hj : j < sV σ) : sA σ k j = true ↔ (j = k ∨ ∃ p, p < sV σ ∧ sA σ k p = true ∧ (sF σ p = some j ∨ sS σ p = some j)) := by
  have hV := h.2.1
  constructor
  · have key : ∀ n k, k < n → k < sV σ → sA σ k j = true → (j = k ∨ ∃ p, p < sV σ ∧ sA σ k p = true ∧ (sF σ p = some j ∨ sS σ p = some j)) := by
      intro n
      induction n with
      | zero => intro k h0; omega
      | succ n ih =>
        intro k hn hk ha
        obtain ⟨q1, q2, q3⟩ := h.2.2.2.2.2 k hk
        rw [q3 j (by omega), Bool.or_eq_true, Bool.or_eq_true] at ha
        have hself := h.self hk
        rcases ha with (ha | ha) | ha
        · exact Or.inl (of_decide_eq_true ha)
        · right
          cases hf : sF σ k with
          | none => rw [hf] at ha; cases ha
          | some q =>
            rw [hf] at ha
            have hq := q1 q hf
            rcases ih q (by omega) (by omega) ha with e | ⟨p, p1, p2, p3⟩
            · subst e; exact ⟨k, hk, hself, Or.inl hf⟩
            · refine ⟨p, p1, ?_, p3⟩
              rw [q3 p (by omega), Bool.or_eq_true, Bool.or_eq_true]
              exact Or.inl (Or.inr (by rw [hf]; exact p2))
        · right
          cases hf : sS σ k with
          | none => rw [hf] at ha; cases ha
          | some q =>
            rw [hf] at ha
            have hq := q2 q hf
            rcases ih q (by omega) (by omega) ha with e | ⟨p, p1, p2, p3⟩
            · subst e; exact ⟨k, hk, hself, Or.inr hf⟩
            · refine ⟨p, p1, ?_, p3⟩
              rw [q3 p (by omega), Bool.or_eq_true, Bool.or_eq_true]
              exact Or.inr (by rw [hf]; exact p2)
    exact key (k + 1) k (by omega) hk
  · rintro (e | ⟨p, p1, p2, p3⟩)
    · subst e; exact h.self hk
    · have hjp : j < p := by
        rcases p3 with p3 | p3
        · exact (h.2.2.2.2.2 p p1).1 j p3
        · exact (h.2.2.2.2.2 p p1).2.1 j p3
      exact h.back hk hjp p3 p2 p1
/-- the marks while they are made, from above down to i -/
def MInv (σ : SG) (k i : Nat) (hb : Nat → Bool) : Prop := (∀ j, i ≤ j → j < sV σ → hb j = sA σ k j) ∧ ∀ j, j < i → j < sV σ → (hb j = true ↔ (j = k ∨ ∃ p, i ≤ p ∧ p < sV σ ∧ sA σ k p = true ∧ (sF σ p = some j ∨ sS σ p = some j)))
theorem MInv.start {σ : SG} (h : WF σ) {k : Nat} (hk : k < sV σ) {hb : Nat → Bool} (hh : ∀ j, j < sV σ → hb j = decide (j = k)) : MInv σ k (k + 1) hb := by
  have hV := h.2.1
  refine ⟨fun j h1 h2 => ?_, fun j h1 h2 => ?_⟩
  · rw [hh j h2, decide_eq_false (by omega)]
    cases ha : sA σ k j with
    | false => rfl
    | true => have := h.anc (k + 1) k (by omega) hk j (by omega) ha; omega
  · rw [hh j h2]
    constructor
    · intro z; exact Or.inl (of_decide_eq_true z)
    · rintro (z | ⟨p, p1, p2, p3, -⟩)
      · exact decide_eq_true z
      · have := h.anc (k + 1) k (by omega) hk p (by omega) p3; omega
theorem MInv.at {σ : SG} (h : WF σ) {k i : Nat} (hk : k < sV σ) {hb : Nat → Bool} (hi : i < sV σ) (hv : MInv σ k (i + 1) hb) : hb i = sA σ k i := by
  apply Bool.eq_iff_iff.mpr
  rw [hv.2 i (by omega) hi, h.char hk hi]
  constructor
  · rintro (e | ⟨p, p1, p2, p3, p4⟩)
    · exact Or.inl e
    · exact Or.inr ⟨p, p2, p3, p4⟩
  · rintro (e | ⟨p, p2, p3, p4⟩)
    · exact Or.inl e
    · refine Or.inr ⟨p, ?_, p2, p3, p4⟩
      rcases p4 with p4 | p4
      · exact (h.2.2.2.2.2 p p2).1 i p4
      · exact (h.2.2.2.2.2 p p2).2.1 i p4
theorem MInv.no {σ : SG} (h : WF σ) {k i : Nat} (hk : k < sV σ) {hb : Nat → Bool} (hi : i < sV σ) (hv : MInv σ k (i + 1) hb) (h0 : hb i = false) : MInv σ k i hb := by
  have e := hv.at h hk hi
  refine ⟨fun j h1 h2 => ?_, fun j h1 h2 => ?_⟩
  · rcases Nat.lt_or_ge i j with q | q
    · exact hv.1 j q h2
    · rw [show j = i by omega]; exact e
  · rw [hv.2 j (by omega) h2]
    constructor
    · rintro (z | ⟨p, p1, p2, p3, p4⟩)
      · exact Or.inl z
      · exact Or.inr ⟨p, by omega, p2, p3, p4⟩
    · rintro (z | ⟨p, p1, p2, p3, p4⟩)
      · exact Or.inl z
      · rcases Nat.lt_or_ge i p with q | q
        · exact Or.inr ⟨p, q, p2, p3, p4⟩
        · rw [show p = i by omega, ← e, h0] at p3; cases p3
theorem MInv.yes {σ : SG} (h : WF σ) {k i : Nat} (hk : k < sV σ) {hb hb' : Nat → Bool} (hi : i < sV σ) (hv : MInv σ k (i + 1) hb) (h1 : hb i = true) (hn : ∀ j, hb' j = (hb j || (decide (sF σ i = some j) || decide (sS σ i = some j)))) : MInv σ k i hb' := by
  have e := hv.at h hk hi
  obtain ⟨q1, q2, -⟩ := h.2.2.2.2.2 i hi
  refine ⟨fun j g1 g2 => ?_, fun j g1 g2 => ?_⟩
  · have d1 : decide (sF σ i = some j) = false := decide_eq_false (fun z => by have := q1 j z; omega)
    have d2 : decide (sS σ i = some j) = false := decide_eq_false (fun z => by have := q2 j z; omega)
    rw [hn, d1, d2, Bool.or_false, Bool.or_false]
    rcases Nat.lt_or_ge i j with q | q
    · exact hv.1 j q g2
    · rw [show j = i by omega]; exact e
  · rw [hn, Bool.or_eq_true, Bool.or_eq_true, hv.2 j (by omega) g2]
    constructor
    · rintro ((z | ⟨p, p1, p2, p3, p4⟩) | z)
      · exact Or.inl z
      · exact Or.inr ⟨p, by omega, p2, p3, p4⟩
      · exact Or.inr ⟨i, Nat.le_refl _, hi, by rw [← e]; exact h1, z.elim (fun y => Or.inl (of_decide_eq_true y)) (fun y => Or.inr (of_decide_eq_true y))⟩
    · rintro (z | ⟨p, p1, p2, p3, p4⟩)
      · exact Or.inl (Or.inl z)
      · rcases Nat.lt_or_ge i p with q | q
        · exact Or.inl (Or.inr ⟨p, q, p2, p3, p4⟩)
        · rw [show p = i by omega] at p4
          exact Or.inr (p4.elim (fun y => Or.inl (decide_eq_true y)) (fun y => Or.inr (decide_eq_true y)))
/-- the greatest common one among n -/
def GCo (a1 a2 : Nat → Bool) (n : Nat) (o : Option Nat) : Prop := match o with
  | none => ∀ z, z < n → ¬ (a1 z = true ∧ a2 z = true)
  | some c => c < n ∧ a1 c = true ∧ a2 c = true ∧ ∀ z, c < z → z < n → ¬ (a1 z = true ∧ a2 z = true)
theorem GCo.of1 {σ : SG} (h : WF σ) {u v c : Nat} (hu : u < sV σ) (hc : GC1 σ u v c) : GCo (sA σ u) (sA σ v) (sV σ) (some c) := by
  have := h.gc1 hu hc
  have hV := h.2.1
  exact ⟨by omega, hc.2.1, hc.2.2.1, fun z z1 z2 => hc.2.2.2 z z1 (by omega)⟩
theorem GCo.of0 {σ : SG} (h : WF σ) {u v : Nat} (hc : GC0 σ u v) : GCo (sA σ u) (sA σ v) (sV σ) none := fun z hz => hc z (by have := h.2.1; omega)
set_option maxHeartbeats 4000000 in
set_option maxRecDepth 100000 in
/-- mark(k, array 5) -/
theorem c_X4_mark_5 (l : Launch) (D : va_G) (g : Nat → ClassId) (b0 : Nat) (H : Heap) (μ : Nat → Nat) (σ : SG) (nC : Nat) (x : Nat → Nat → Int32) (hM : MC D g b0 μ (sV σ) (sB σ) nC x H) (hR : MR σ x) (hC4 : nC ≤ 64) (k : Nat) (hk : k < sV σ) : Met l yX4_mark wsX4_mark ({ frames := 0, cells := 0, slots := 0, locals := 0 } : Room) (kPc D g [.ref (μ 0), .int (nI k), .ref (μ 5)] H) (kU (fun H1 => ∃ m1 : Nat → Int32, MC D g b0 μ (sV σ) (sB σ) nC (va_up x 5 m1) H1 ∧ MFr μ H H1 ∧ ∀ j, j < sV σ → m1 j = b2i (sA σ k j))) 0 0 (kF b0) := by
  refine Met.ofW (cc := cX4_mark) (maxL := 4) (ret := none) (by decide) rfl ?_
  intro p e s m args below meth c s₁ B hml hv
  obtain ⟨rfl, hH, hK⟩ := hv
  have hx := B.exec
  have hb := B.bytes
  have hr := B.returns
  have hts := atoms_spec (ws := wsX4_mark) B.pre
  have hown : s.vm.findClass RX4 = some m.cls := findClass_of_methodNamed B.named
  have hlocks := B.notSynchronized
  rw [hH]
  have hl := lv_entry ([.ref (μ 0), .int (nI k), .ref (μ 5)]) (n := 4) (Nat.le_of_ble_eq_true rfl)
  rw [lg_entry_eq]
  generalize (lg_sl ([.ref (μ 0), .int (nI k), .ref (μ 5)]) ++ List.replicate (4 - (lg_sl ([.ref (μ 0), .int (nI k), .ref (μ 5)])).length) Slot.unset).toArray = ls at hl ⊢
  have hl : lv_has ls 4 [(0, .ref (μ 0)), (1, .int (nI k)), (2, .ref (μ 5))] := hl
  have hWF := hR.1
  have hV4 : sV σ ≤ 400 := hWF.2.1
  have hB4 : sB σ ≤ 40 := hWF.2.2.2.1
  refine lv_iconst (v := nI 0) hx hb dX4_mark_0 (by decide +kernel) ?_
  refine lv_istore_n (lv' := [(3, .int (nI 0)), (0, .ref (μ 0)), (1, .int (nI k)), (2, .ref (μ 5))]) hx hb dX4_mark_1 rfl hl (by decide) rfl (fun ls hl => ?_)
  have loop2 : ∀ (n i : Nat) (y : Int32) (H1 : Heap) (locs1 : List Loc) (h1 : Nat → Int32) (hb_ : Nat → Bool), i < n → i ≤ k + 1 → y = nI i - 1 → MC D g b0 μ (sV σ) (sB σ) nC (va_up x 5 h1) H1 → MFr μ H H1 → LB b0 locs1 → (∀ j, j < sV σ → h1 j = b2i (hb_ j)) → MInv σ k i hb_ → ∀ ls, lv_has ls 4 [(3, .int y), (0, .ref (μ 0)), (1, .int (nI k)), (2, .ref (μ 5))] → W p l e (headSpec wsX4_mark ({ frames := 0, cells := 0, slots := 0, locals := 0 } : Room)).room s m ([.ref (μ 0), .int (nI k), .ref (μ 5)] : List Value).toArray below meth c H1 locs1 0 0 (MQ below (kU (fun H1 => ∃ m1 : Nat → Int32, MC D g b0 μ (sV σ) (sB σ) nC (va_up x 5 m1) H1 ∧ MFr μ H H1 ∧ ∀ j, j < sV σ → m1 j = b2i (sA σ k j))) ([.ref (μ 0), .int (nI k), .ref (μ 5)] : List Value).toArray s 0 0 (kF b0)) (F0 m 31 ls []) := by
    intro n
    induction n with
    | zero => intro i y H1 locs1 h1 hb_ h0 h1; omega
    | succ n ih =>
      intro i y H1 locs1 h1 hb_ hn hi hy hM1 hF hLB hv hI ls hl
      cases i with
      | zero =>
        refine lv_iload_n hx hb dX4_mark_31 rfl (lv_at hl 0 rfl) ?_
        refine lv_if_lt (tgt := 86) hx hb dX4_mark_32 (by decide) (fun _ => ?_) (fun q => absurd (by rw [hy]; decide +kernel) q)
        exact r_vU hx hb hr hLB (Nat.le_refl _) (Nat.le_refl _) ⟨h1, hM1, hF, fun j hj => by rw [hv j hj, hI.1 j (Nat.zero_le _) hj]⟩ dX4_mark_86 hlocks
      | succ i =>
        obtain rfl : y = nI i := hy.trans (nI_pred i)
        refine lv_iload_n hx hb dX4_mark_31 rfl (lv_at hl 0 rfl) ?_
        refine n_if_lt (tgt := 86) hx hb dX4_mark_32 (by decide) (by omega) ?_
        refine lv_aload_n hx hb dX4_mark_35 rfl (lv_at hl 3 rfl) ?_
        refine lv_iload_n hx hb dX4_mark_36 rfl (lv_at hl 0 rfl) ?_
        refine k_zald hx hb hK hM1.a5 (i) rfl (by omega) (by omega) dX4_mark_37 ?_
        rw [show (va_up x 5 h1) 5 (i) = b2i (hb_ i) from (by rw [up_eq]; exact hv i (by omega))]
        refine z_if_ne (tgt := 44) hx hb dX4_mark_38 (by decide) (fun c_583 => ?_) (fun c_583 => ?_)
        · skip
          rcases hfi : sF σ i with _ | p1
          · skip
            rcases hse : sS σ i with _ | p2
            · skip
              refine lv_aload_n hx hb dX4_mark_44 rfl (lv_at hl 1 rfl) ?_
              refine k_get (ci := 4) (C := RX4) (T := TX4) (N := 13) (v := .ref (μ 2)) hx hb hts (by decide +kernel) hown hK hM1.o rfl 1 (by decide) rfl (hts (.fieldLink RX4 14 RX4 "firsts" "[I") (by decide +kernel)) rfl dX4_mark_45 ?_
              refine lv_iload_n hx hb dX4_mark_48 rfl (lv_at hl 0 rfl) ?_
              refine k_iald hx hb hK hM1.a2 (i) rfl (by omega) (by omega) dX4_mark_49 ?_
              rw [show (va_up x 5 h1) 2 (i) = (-1) from (by have q := hR.2.2.1 i (by omega); rw [hfi] at q; exact q)]
              refine lv_if_lt (tgt := 62) hx hb dX4_mark_50 (by decide) (fun _ => ?_) (fun q => absurd (by decide +kernel) q)
              refine lv_aload_n hx hb dX4_mark_62 rfl (lv_at hl 1 rfl) ?_
              refine k_get (ci := 4) (C := RX4) (T := TX4) (N := 13) (v := .ref (μ 3)) hx hb hts (by decide +kernel) hown hK hM1.o rfl 2 (by decide) rfl (hts (.fieldLink RX4 18 RX4 "seconds" "[I") (by decide +kernel)) rfl dX4_mark_63 ?_
              refine lv_iload_n hx hb dX4_mark_66 rfl (lv_at hl 0 rfl) ?_
              refine k_iald hx hb hK hM1.a3 (i) rfl (by omega) (by omega) dX4_mark_67 ?_
              rw [show (va_up x 5 h1) 3 (i) = (-1) from (by have q := hR.2.2.2.1 i (by omega); rw [hse] at q; exact q)]
              refine lv_if_lt (tgt := 80) hx hb dX4_mark_68 (by decide) (fun _ => ?_) (fun q => absurd (by decide +kernel) q)
              refine lv_iinc (v := (nI i) + -1) (lv' := [(3, .int ((nI i) + -1)), (0, .ref (μ 0)), (1, .int (nI k)), (2, .ref (μ 5))]) hx hb dX4_mark_80 hl (k := 0) rfl rfl (by decide) rfl (fun ls hl => ?_)
              refine lv_goto (tgt := 31) hx hb dX4_mark_83 (by decide) ?_
              refine ih i _ H1 locs1 h1 hb_ (by omega) (by omega) (Int32.sub_eq_add_neg _ _).symm hM1 hF hLB ?_ (hI.yes hWF hk (by omega) c_583 ?_) ls (lv_sub hl [0, 1, 2, 3] rfl)
              · exact hv
              · intro j; rw [hfi, hse]; simp
            · skip
              have hp2 := (hWF.2.2.2.2.2 i (by omega)).2.1 p2 hse
              refine lv_aload_n hx hb dX4_mark_44 rfl (lv_at hl 1 rfl) ?_
              refine k_get (ci := 4) (C := RX4) (T := TX4) (N := 13) (v := .ref (μ 2)) hx hb hts (by decide +kernel) hown hK hM1.o rfl 1 (by decide) rfl (hts (.fieldLink RX4 14 RX4 "firsts" "[I") (by decide +kernel)) rfl dX4_mark_45 ?_
              refine lv_iload_n hx hb dX4_mark_48 rfl (lv_at hl 0 rfl) ?_
              refine k_iald hx hb hK hM1.a2 (i) rfl (by omega) (by omega) dX4_mark_49 ?_
              rw [show (va_up x 5 h1) 2 (i) = (-1) from (by have q := hR.2.2.1 i (by omega); rw [hfi] at q; exact q)]
              refine lv_if_lt (tgt := 62) hx hb dX4_mark_50 (by decide) (fun _ => ?_) (fun q => absurd (by decide +kernel) q)
              refine lv_aload_n hx hb dX4_mark_62 rfl (lv_at hl 1 rfl) ?_
              refine k_get (ci := 4) (C := RX4) (T := TX4) (N := 13) (v := .ref (μ 3)) hx hb hts (by decide +kernel) hown hK hM1.o rfl 2 (by decide) rfl (hts (.fieldLink RX4 18 RX4 "seconds" "[I") (by decide +kernel)) rfl dX4_mark_63 ?_
              refine lv_iload_n hx hb dX4_mark_66 rfl (lv_at hl 0 rfl) ?_
              refine k_iald hx hb hK hM1.a3 (i) rfl (by omega) (by omega) dX4_mark_67 ?_
              rw [show (va_up x 5 h1) 3 (i) = nI p2 from (by have q := hR.2.2.2.1 i (by omega); rw [hse] at q; exact q)]
              refine n_if_lt (tgt := 80) hx hb dX4_mark_68 (by decide) (by omega) ?_
              refine lv_aload_n hx hb dX4_mark_71 rfl (lv_at hl 3 rfl) ?_
              refine lv_aload_n hx hb dX4_mark_72 rfl (lv_at hl 1 rfl) ?_
              refine k_get (ci := 4) (C := RX4) (T := TX4) (N := 13) (v := .ref (μ 3)) hx hb hts (by decide +kernel) hown hK hM1.o rfl 2 (by decide) rfl (hts (.fieldLink RX4 18 RX4 "seconds" "[I") (by decide +kernel)) rfl dX4_mark_73 ?_
              refine lv_iload_n hx hb dX4_mark_76 rfl (lv_at hl 0 rfl) ?_
              refine k_iald hx hb hK hM1.a3 (i) rfl (by omega) (by omega) dX4_mark_77 ?_
              rw [show (va_up x 5 h1) 3 (i) = nI p2 from (by have q := hR.2.2.2.1 i (by omega); rw [hse] at q; exact q)]
              refine lv_iconst (v := b2i true) hx hb dX4_mark_78 (by decide +kernel) ?_
              refine k_zast (y := b2i true) hx hb hK hM1.a5 hLB (hM1.ge (by omega)) (p2) rfl (by omega) (by omega) (b2i_z _) dX4_mark_79 (fun H_584 locs_585 hw_586 hC_587 hLB_588 => ?_)
              have hM_589 := hM1.set (c := 5) (by omega) (by omega) (f := (upd ((va_up x 5 h1) 5) (p2) (b2i true))) hw_586 hC_587
              refine lv_iinc (v := (nI i) + -1) (lv' := [(3, .int ((nI i) + -1)), (0, .ref (μ 0)), (1, .int (nI k)), (2, .ref (μ 5))]) hx hb dX4_mark_80 hl (k := 0) rfl rfl (by decide) rfl (fun ls hl => ?_)
              refine lv_goto (tgt := 31) hx hb dX4_mark_83 (by decide) ?_
              have hM2 : MC D g b0 μ (sV σ) (sB σ) nC (va_up x 5 (upd h1 p2 (b2i true))) H_584 := by
                have q := hM_589
                simp only [up_eq, bx_uu] at q
                exact q
              refine ih i _ H_584 locs_585 (upd h1 p2 (b2i true)) (va_up hb_ p2 true) (by omega) (by omega) (Int32.sub_eq_add_neg _ _).symm hM2 (hF.tr (MFr.chg (by omega) hC_587)) hLB_588 ?_ (hI.yes hWF hk (by omega) c_583 ?_) ls (lv_sub hl [0, 1, 2, 3] rfl)
              · intro j hj
                by_cases e : j = p2
                · subst e; rw [pk_us, up_eq]
                · rw [pk_un e, up_ne _ _ e]; exact hv j hj
              · intro j
                rw [hfi, hse]
                unfold va_up
                by_cases e : j = p2
                · subst e; simp
                · have e3 : ¬ p2 = j := fun z => e z.symm
                  simp [e, e3]
          · skip
            have hp1 := (hWF.2.2.2.2.2 i (by omega)).1 p1 hfi
            rcases hse : sS σ i with _ | p2
            · skip
              refine lv_aload_n hx hb dX4_mark_44 rfl (lv_at hl 1 rfl) ?_
              refine k_get (ci := 4) (C := RX4) (T := TX4) (N := 13) (v := .ref (μ 2)) hx hb hts (by decide +kernel) hown hK hM1.o rfl 1 (by decide) rfl (hts (.fieldLink RX4 14 RX4 "firsts" "[I") (by decide +kernel)) rfl dX4_mark_45 ?_
              refine lv_iload_n hx hb dX4_mark_48 rfl (lv_at hl 0 rfl) ?_
              refine k_iald hx hb hK hM1.a2 (i) rfl (by omega) (by omega) dX4_mark_49 ?_
              rw [show (va_up x 5 h1) 2 (i) = nI p1 from (by have q := hR.2.2.1 i (by omega); rw [hfi] at q; exact q)]
              refine n_if_lt (tgt := 62) hx hb dX4_mark_50 (by decide) (by omega) ?_
              refine lv_aload_n hx hb dX4_mark_53 rfl (lv_at hl 3 rfl) ?_
              refine lv_aload_n hx hb dX4_mark_54 rfl (lv_at hl 1 rfl) ?_
              refine k_get (ci := 4) (C := RX4) (T := TX4) (N := 13) (v := .ref (μ 2)) hx hb hts (by decide +kernel) hown hK hM1.o rfl 1 (by decide) rfl (hts (.fieldLink RX4 14 RX4 "firsts" "[I") (by decide +kernel)) rfl dX4_mark_55 ?_
              refine lv_iload_n hx hb dX4_mark_58 rfl (lv_at hl 0 rfl) ?_
              refine k_iald hx hb hK hM1.a2 (i) rfl (by omega) (by omega) dX4_mark_59 ?_
              rw [show (va_up x 5 h1) 2 (i) = nI p1 from (by have q := hR.2.2.1 i (by omega); rw [hfi] at q; exact q)]
              refine lv_iconst (v := b2i true) hx hb dX4_mark_60 (by decide +kernel) ?_
              refine k_zast (y := b2i true) hx hb hK hM1.a5 hLB (hM1.ge (by omega)) (p1) rfl (by omega) (by omega) (b2i_z _) dX4_mark_61 (fun H_590 locs_591 hw_592 hC_593 hLB_594 => ?_)
              have hM_595 := hM1.set (c := 5) (by omega) (by omega) (f := (upd ((va_up x 5 h1) 5) (p1) (b2i true))) hw_592 hC_593
              refine lv_aload_n hx hb dX4_mark_62 rfl (lv_at hl 1 rfl) ?_
              refine k_get (ci := 4) (C := RX4) (T := TX4) (N := 13) (v := .ref (μ 3)) hx hb hts (by decide +kernel) hown hK hM_595.o rfl 2 (by decide) rfl (hts (.fieldLink RX4 18 RX4 "seconds" "[I") (by decide +kernel)) rfl dX4_mark_63 ?_
              refine lv_iload_n hx hb dX4_mark_66 rfl (lv_at hl 0 rfl) ?_
              refine k_iald hx hb hK hM_595.a3 (i) rfl (by omega) (by omega) dX4_mark_67 ?_
              rw [show (va_up (va_up x 5 h1) 5 (upd ((va_up x 5 h1) 5) (p1) (b2i true))) 3 (i) = (-1) from (by have q := hR.2.2.2.1 i (by omega); rw [hse] at q; exact q)]
              refine lv_if_lt (tgt := 80) hx hb dX4_mark_68 (by decide) (fun _ => ?_) (fun q => absurd (by decide +kernel) q)
              refine lv_iinc (v := (nI i) + -1) (lv' := [(3, .int ((nI i) + -1)), (0, .ref (μ 0)), (1, .int (nI k)), (2, .ref (μ 5))]) hx hb dX4_mark_80 hl (k := 0) rfl rfl (by decide) rfl (fun ls hl => ?_)
              refine lv_goto (tgt := 31) hx hb dX4_mark_83 (by decide) ?_
              have hM2 : MC D g b0 μ (sV σ) (sB σ) nC (va_up x 5 (upd h1 p1 (b2i true))) H_590 := by
                have q := hM_595
                simp only [up_eq, bx_uu] at q
                exact q
              refine ih i _ H_590 locs_591 (upd h1 p1 (b2i true)) (va_up hb_ p1 true) (by omega) (by omega) (Int32.sub_eq_add_neg _ _).symm hM2 (hF.tr (MFr.chg (by omega) hC_593)) hLB_594 ?_ (hI.yes hWF hk (by omega) c_583 ?_) ls (lv_sub hl [0, 1, 2, 3] rfl)
              · intro j hj
                by_cases e : j = p1
                · subst e; rw [pk_us, up_eq]
                · rw [pk_un e, up_ne _ _ e]; exact hv j hj
              · intro j
                rw [hfi, hse]
                unfold va_up
                by_cases e : j = p1
                · subst e; simp
                · have e3 : ¬ p1 = j := fun z => e z.symm
                  simp [e, e3]
            · skip
              have hp2 := (hWF.2.2.2.2.2 i (by omega)).2.1 p2 hse
              refine lv_aload_n hx hb dX4_mark_44 rfl (lv_at hl 1 rfl) ?_
              refine k_get (ci := 4) (C := RX4) (T := TX4) (N := 13) (v := .ref (μ 2)) hx hb hts (by decide +kernel) hown hK hM1.o rfl 1 (by decide) rfl (hts (.fieldLink RX4 14 RX4 "firsts" "[I") (by decide +kernel)) rfl dX4_mark_45 ?_
              refine lv_iload_n hx hb dX4_mark_48 rfl (lv_at hl 0 rfl) ?_
              refine k_iald hx hb hK hM1.a2 (i) rfl (by omega) (by omega) dX4_mark_49 ?_
              rw [show (va_up x 5 h1) 2 (i) = nI p1 from (by have q := hR.2.2.1 i (by omega); rw [hfi] at q; exact q)]
              refine n_if_lt (tgt := 62) hx hb dX4_mark_50 (by decide) (by omega) ?_
              refine lv_aload_n hx hb dX4_mark_53 rfl (lv_at hl 3 rfl) ?_
              refine lv_aload_n hx hb dX4_mark_54 rfl (lv_at hl 1 rfl) ?_
              refine k_get (ci := 4) (C := RX4) (T := TX4) (N := 13) (v := .ref (μ 2)) hx hb hts (by decide +kernel) hown hK hM1.o rfl 1 (by decide) rfl (hts (.fieldLink RX4 14 RX4 "firsts" "[I") (by decide +kernel)) rfl dX4_mark_55 ?_
              refine lv_iload_n hx hb dX4_mark_58 rfl (lv_at hl 0 rfl) ?_
              refine k_iald hx hb hK hM1.a2 (i) rfl (by omega) (by omega) dX4_mark_59 ?_
              rw [show (va_up x 5 h1) 2 (i) = nI p1 from (by have q := hR.2.2.1 i (by omega); rw [hfi] at q; exact q)]
              refine lv_iconst (v := b2i true) hx hb dX4_mark_60 (by decide +kernel) ?_
              refine k_zast (y := b2i true) hx hb hK hM1.a5 hLB (hM1.ge (by omega)) (p1) rfl (by omega) (by omega) (b2i_z _) dX4_mark_61 (fun H_596 locs_597 hw_598 hC_599 hLB_600 => ?_)
              have hM_601 := hM1.set (c := 5) (by omega) (by omega) (f := (upd ((va_up x 5 h1) 5) (p1) (b2i true))) hw_598 hC_599
              refine lv_aload_n hx hb dX4_mark_62 rfl (lv_at hl 1 rfl) ?_
              refine k_get (ci := 4) (C := RX4) (T := TX4) (N := 13) (v := .ref (μ 3)) hx hb hts (by decide +kernel) hown hK hM_601.o rfl 2 (by decide) rfl (hts (.fieldLink RX4 18 RX4 "seconds" "[I") (by decide +kernel)) rfl dX4_mark_63 ?_
              refine lv_iload_n hx hb dX4_mark_66 rfl (lv_at hl 0 rfl) ?_
              refine k_iald hx hb hK hM_601.a3 (i) rfl (by omega) (by omega) dX4_mark_67 ?_
              rw [show (va_up (va_up x 5 h1) 5 (upd ((va_up x 5 h1) 5) (p1) (b2i true))) 3 (i) = nI p2 from (by have q := hR.2.2.2.1 i (by omega); rw [hse] at q; exact q)]
              refine n_if_lt (tgt := 80) hx hb dX4_mark_68 (by decide) (by omega) ?_
              refine lv_aload_n hx hb dX4_mark_71 rfl (lv_at hl 3 rfl) ?_
              refine lv_aload_n hx hb dX4_mark_72 rfl (lv_at hl 1 rfl) ?_
              refine k_get (ci := 4) (C := RX4) (T := TX4) (N := 13) (v := .ref (μ 3)) hx hb hts (by decide +kernel) hown hK hM_601.o rfl 2 (by decide) rfl (hts (.fieldLink RX4 18 RX4 "seconds" "[I") (by decide +kernel)) rfl dX4_mark_73 ?_
              refine lv_iload_n hx hb dX4_mark_76 rfl (lv_at hl 0 rfl) ?_
              refine k_iald hx hb hK hM_601.a3 (i) rfl (by omega) (by omega) dX4_mark_77 ?_
              rw [show (va_up (va_up x 5 h1) 5 (upd ((va_up x 5 h1) 5) (p1) (b2i true))) 3 (i) = nI p2 from (by have q := hR.2.2.2.1 i (by omega); rw [hse] at q; exact q)]
              refine lv_iconst (v := b2i true) hx hb dX4_mark_78 (by decide +kernel) ?_
              refine k_zast (y := b2i true) hx hb hK hM_601.a5 hLB_600 (hM_601.ge (by omega)) (p2) rfl (by omega) (by omega) (b2i_z _) dX4_mark_79 (fun H_602 locs_603 hw_604 hC_605 hLB_606 => ?_)
              have hM_607 := hM_601.set (c := 5) (by omega) (by omega) (f := (upd ((va_up (va_up x 5 h1) 5 (upd ((va_up x 5 h1) 5) (p1) (b2i true))) 5) (p2) (b2i true))) hw_604 hC_605
              refine lv_iinc (v := (nI i) + -1) (lv' := [(3, .int ((nI i) + -1)), (0, .ref (μ 0)), (1, .int (nI k)), (2, .ref (μ 5))]) hx hb dX4_mark_80 hl (k := 0) rfl rfl (by decide) rfl (fun ls hl => ?_)
              refine lv_goto (tgt := 31) hx hb dX4_mark_83 (by decide) ?_
              have hM2 : MC D g b0 μ (sV σ) (sB σ) nC (va_up x 5 (upd (upd h1 p1 (b2i true)) p2 (b2i true))) H_602 := by
                have q := hM_607
                simp only [up_eq, bx_uu] at q
                exact q
              refine ih i _ H_602 locs_603 (upd (upd h1 p1 (b2i true)) p2 (b2i true)) (va_up (va_up hb_ p1 true) p2 true) (by omega) (by omega) (Int32.sub_eq_add_neg _ _).symm hM2 ((hF.tr (MFr.chg (by omega) hC_599)).tr (MFr.chg (by omega) hC_605)) hLB_606 ?_ (hI.yes hWF hk (by omega) c_583 ?_) ls (lv_sub hl [0, 1, 2, 3] rfl)
              · intro j hj
                by_cases e : j = p2
                · subst e; rw [pk_us, up_eq]
                · rw [pk_un e, up_ne _ _ e]
                  by_cases e2 : j = p1
                  · subst e2; rw [pk_us, up_eq]
                  · rw [pk_un e2, up_ne _ _ e2]; exact hv j hj
              · intro j
                rw [hfi, hse]
                unfold va_up
                by_cases e : j = p2
                · subst e; simp
                · have e3 : ¬ p2 = j := fun z => e z.symm
                  by_cases e2 : j = p1
                  · subst e2; simp
                  · have e4 : ¬ p1 = j := fun z => e2 z.symm
                    simp [e, e2, e3, e4]
        · skip
          refine lv_goto (tgt := 80) hx hb dX4_mark_41 (by decide) ?_
          refine lv_iinc (v := (nI i) + -1) (lv' := [(3, .int ((nI i) + -1)), (0, .ref (μ 0)), (1, .int (nI k)), (2, .ref (μ 5))]) hx hb dX4_mark_80 hl (k := 0) rfl rfl (by decide) rfl (fun ls hl => ?_)
          refine lv_goto (tgt := 31) hx hb dX4_mark_83 (by decide) ?_
          exact ih i _ H1 locs1 h1 hb_ (by omega) (by omega) (Int32.sub_eq_add_neg _ _).symm hM1 hF hLB hv (hI.no hWF hk (by omega) c_583) ls (lv_sub hl [0, 1, 2, 3] rfl)
  have loop : ∀ (n i : Nat) (H1 : Heap) (locs1 : List Loc) (h1 : Nat → Int32), sV σ < i + n → i ≤ sV σ → MC D g b0 μ (sV σ) (sB σ) nC (va_up x 5 h1) H1 → MFr μ H H1 → LB b0 locs1 → (∀ j, j < i → h1 j = b2i (decide (j = k))) → ∀ ls, lv_has ls 4 [(3, .int (nI i)), (0, .ref (μ 0)), (1, .int (nI k)), (2, .ref (μ 5))] → W p l e (headSpec wsX4_mark ({ frames := 0, cells := 0, slots := 0, locals := 0 } : Room)).room s m ([.ref (μ 0), .int (nI k), .ref (μ 5)] : List Value).toArray below meth c H1 locs1 0 0 (MQ below (kU (fun H1 => ∃ m1 : Nat → Int32, MC D g b0 μ (sV σ) (sB σ) nC (va_up x 5 m1) H1 ∧ MFr μ H H1 ∧ ∀ j, j < sV σ → m1 j = b2i (sA σ k j))) ([.ref (μ 0), .int (nI k), .ref (μ 5)] : List Value).toArray s 0 0 (kF b0)) (F0 m 2 ls []) := by
    intro n
    induction n with
    | zero => intro i H1 locs1 h1 h0 h1; omega
    | succ n ih =>
      intro i H1 locs1 h1 hn hi hM1 hF hLB hv ls hl
      refine lv_iload_n hx hb dX4_mark_2 rfl (lv_at hl 0 rfl) ?_
      refine lv_aload_n hx hb dX4_mark_3 rfl (lv_at hl 1 rfl) ?_
      refine k_get (ci := 4) (C := RX4) (T := TX4) (N := 13) (v := .int (nI (sV σ))) hx hb hts (by decide +kernel) hown hK hM1.o rfl 3 (by decide) rfl (hts (.fieldLink RX4 43 RX4 "versions" "I") (by decide +kernel)) rfl dX4_mark_4 ?_
      refine n_icmp_ge (tgt := 29) hx hb dX4_mark_7 (by decide) (by omega) (by omega) (fun c_608 => ?_) (fun c_608 => ?_)
      · skip
        refine lv_iload_n hx hb dX4_mark_29 rfl (lv_at hl 2 rfl) ?_
        refine lv_istore_n (lv' := [(3, .int (nI k)), (0, .ref (μ 0)), (1, .int (nI k)), (2, .ref (μ 5))]) hx hb dX4_mark_30 rfl hl (by decide) rfl (fun ls hl => ?_)
        exact loop2 (k + 2) (k + 1) _ H1 locs1 h1 (fun j => decide (j = k)) (by omega) (Nat.le_refl _) (nI_pred _).symm hM1 hF hLB (fun j hj => hv j (by omega)) (MInv.start hWF hk (fun j _ => rfl)) ls (lv_sub hl [0, 1, 2, 3] rfl)
      · skip
        refine lv_aload_n hx hb dX4_mark_10 rfl (lv_at hl 3 rfl) ?_
        refine lv_iload_n hx hb dX4_mark_11 rfl (lv_at hl 0 rfl) ?_
        refine lv_iload_n hx hb dX4_mark_12 rfl (lv_at hl 0 rfl) ?_
        refine lv_iload_n hx hb dX4_mark_13 rfl (lv_at hl 2 rfl) ?_
        refine n_icmp_ne (tgt := 21) hx hb dX4_mark_14 (by decide) (by omega) (by omega) (fun c_609 => ?_) (fun c_609 => ?_)
        · skip
          refine lv_iconst (v := b2i false) hx hb dX4_mark_21 (by decide +kernel) ?_
          refine k_zast (y := b2i false) hx hb hK hM1.a5 hLB (hM1.ge (by omega)) (i) rfl (by omega) (by omega) (b2i_z _) dX4_mark_22 (fun H_610 locs_611 hw_612 hC_613 hLB_614 => ?_)
          have hM_615 := hM1.set (c := 5) (by omega) (by omega) (f := (upd ((va_up x 5 h1) 5) (i) (b2i false))) hw_612 hC_613
          refine lv_iinc (v := nI (i + 1)) (lv' := [(3, .int (nI (i + 1))), (0, .ref (μ 0)), (1, .int (nI k)), (2, .ref (μ 5))]) hx hb dX4_mark_23 hl (k := 0) rfl (nI_add (i) 1) (by decide) rfl (fun ls hl => ?_)
          refine lv_goto (tgt := 2) hx hb dX4_mark_26 (by decide) ?_
          have hM2 : MC D g b0 μ (sV σ) (sB σ) nC (va_up x 5 (upd h1 i (b2i false))) H_610 := by
            have q := hM_615
            rw [up_eq, bx_uu] at q
            exact q
          refine ih (i + 1) H_610 locs_611 _ (by omega) (by omega) hM2 (hF.tr (MFr.chg (by omega) hC_613)) hLB_614 ?_ ls (lv_sub hl [0, 1, 2, 3] rfl)
          intro t ht
          by_cases e : t = i
          · subst e; rw [pk_us, decide_eq_false c_609]
          · rw [pk_un e]; exact hv t (by omega)
        · skip
          refine lv_iconst (v := b2i true) hx hb dX4_mark_17 (by decide +kernel) ?_
          refine lv_goto (tgt := 22) hx hb dX4_mark_18 (by decide) ?_
          refine k_zast (y := b2i true) hx hb hK hM1.a5 hLB (hM1.ge (by omega)) (i) rfl (by omega) (by omega) (b2i_z _) dX4_mark_22 (fun H_616 locs_617 hw_618 hC_619 hLB_620 => ?_)
          have hM_621 := hM1.set (c := 5) (by omega) (by omega) (f := (upd ((va_up x 5 h1) 5) (i) (b2i true))) hw_618 hC_619
          refine lv_iinc (v := nI (i + 1)) (lv' := [(3, .int (nI (i + 1))), (0, .ref (μ 0)), (1, .int (nI k)), (2, .ref (μ 5))]) hx hb dX4_mark_23 hl (k := 0) rfl (nI_add (i) 1) (by decide) rfl (fun ls hl => ?_)
          refine lv_goto (tgt := 2) hx hb dX4_mark_26 (by decide) ?_
          have hM2 : MC D g b0 μ (sV σ) (sB σ) nC (va_up x 5 (upd h1 i (b2i true))) H_616 := by
            have q := hM_621
            rw [up_eq, bx_uu] at q
            exact q
          refine ih (i + 1) H_616 locs_617 _ (by omega) (by omega) hM2 (hF.tr (MFr.chg (by omega) hC_619)) hLB_620 ?_ ls (lv_sub hl [0, 1, 2, 3] rfl)
          intro t ht
          by_cases e : t = i
          · subst e; rw [pk_us, decide_eq_true c_609]
          · rw [pk_un e]; exact hv t (by omega)
  exact loop (sV σ + 1) 0 H [] (x 5) (by omega) (by omega) (by rw [up_self]; exact hM) MFr.rf LB.nil (fun t h => by omega) ls (lv_sub hl [0, 1, 2, 3] rfl)
set_option maxHeartbeats 4000000 in
set_option maxRecDepth 100000 in
/-- mark(k, array 6) -/
theorem c_X4_mark_6 (l : Launch) (D : va_G) (g : Nat → ClassId) (b0 : Nat) (H : Heap) (μ : Nat → Nat) (σ : SG) (nC : Nat) (x : Nat → Nat → Int32) (hM : MC D g b0 μ (sV σ) (sB σ) nC x H) (hR : MR σ x) (hC4 : nC ≤ 64) (k : Nat) (hk : k < sV σ) : Met l yX4_mark wsX4_mark ({ frames := 0, cells := 0, slots := 0, locals := 0 } : Room) (kPc D g [.ref (μ 0), .int (nI k), .ref (μ 6)] H) (kU (fun H1 => ∃ m1 : Nat → Int32, MC D g b0 μ (sV σ) (sB σ) nC (va_up x 6 m1) H1 ∧ MFr μ H H1 ∧ ∀ j, j < sV σ → m1 j = b2i (sA σ k j))) 0 0 (kF b0) := by
  refine Met.ofW (cc := cX4_mark) (maxL := 4) (ret := none) (by decide) rfl ?_
  intro p e s m args below meth c s₁ B hml hv
  obtain ⟨rfl, hH, hK⟩ := hv
  have hx := B.exec
  have hb := B.bytes
  have hr := B.returns
  have hts := atoms_spec (ws := wsX4_mark) B.pre
  have hown : s.vm.findClass RX4 = some m.cls := findClass_of_methodNamed B.named
  have hlocks := B.notSynchronized
  rw [hH]
  have hl := lv_entry ([.ref (μ 0), .int (nI k), .ref (μ 6)]) (n := 4) (Nat.le_of_ble_eq_true rfl)
  rw [lg_entry_eq]
  generalize (lg_sl ([.ref (μ 0), .int (nI k), .ref (μ 6)]) ++ List.replicate (4 - (lg_sl ([.ref (μ 0), .int (nI k), .ref (μ 6)])).length) Slot.unset).toArray = ls at hl ⊢
  have hl : lv_has ls 4 [(0, .ref (μ 0)), (1, .int (nI k)), (2, .ref (μ 6))] := hl
  have hWF := hR.1
  have hV4 : sV σ ≤ 400 := hWF.2.1
  have hB4 : sB σ ≤ 40 := hWF.2.2.2.1
  refine lv_iconst (v := nI 0) hx hb dX4_mark_0 (by decide +kernel) ?_
  refine lv_istore_n (lv' := [(3, .int (nI 0)), (0, .ref (μ 0)), (1, .int (nI k)), (2, .ref (μ 6))]) hx hb dX4_mark_1 rfl hl (by decide) rfl (fun ls hl => ?_)
  have loop2 : ∀ (n i : Nat) (y : Int32) (H1 : Heap) (locs1 : List Loc) (h1 : Nat → Int32) (hb_ : Nat → Bool), i < n → i ≤ k + 1 → y = nI i - 1 → MC D g b0 μ (sV σ) (sB σ) nC (va_up x 6 h1) H1 → MFr μ H H1 → LB b0 locs1 → (∀ j, j < sV σ → h1 j = b2i (hb_ j)) → MInv σ k i hb_ → ∀ ls, lv_has ls 4 [(3, .int y), (0, .ref (μ 0)), (1, .int (nI k)), (2, .ref (μ 6))] → W p l e (headSpec wsX4_mark ({ frames := 0, cells := 0, slots := 0, locals := 0 } : Room)).room s m ([.ref (μ 0), .int (nI k), .ref (μ 6)] : List Value).toArray below meth c H1 locs1 0 0 (MQ below (kU (fun H1 => ∃ m1 : Nat → Int32, MC D g b0 μ (sV σ) (sB σ) nC (va_up x 6 m1) H1 ∧ MFr μ H H1 ∧ ∀ j, j < sV σ → m1 j = b2i (sA σ k j))) ([.ref (μ 0), .int (nI k), .ref (μ 6)] : List Value).toArray s 0 0 (kF b0)) (F0 m 31 ls []) := by
    intro n
    induction n with
    | zero => intro i y H1 locs1 h1 hb_ h0 h1; omega
    | succ n ih =>
      intro i y H1 locs1 h1 hb_ hn hi hy hM1 hF hLB hv hI ls hl
      cases i with
      | zero =>
        refine lv_iload_n hx hb dX4_mark_31 rfl (lv_at hl 0 rfl) ?_
        refine lv_if_lt (tgt := 86) hx hb dX4_mark_32 (by decide) (fun _ => ?_) (fun q => absurd (by rw [hy]; decide +kernel) q)
        exact r_vU hx hb hr hLB (Nat.le_refl _) (Nat.le_refl _) ⟨h1, hM1, hF, fun j hj => by rw [hv j hj, hI.1 j (Nat.zero_le _) hj]⟩ dX4_mark_86 hlocks
      | succ i =>
        obtain rfl : y = nI i := hy.trans (nI_pred i)
        refine lv_iload_n hx hb dX4_mark_31 rfl (lv_at hl 0 rfl) ?_
        refine n_if_lt (tgt := 86) hx hb dX4_mark_32 (by decide) (by omega) ?_
        refine lv_aload_n hx hb dX4_mark_35 rfl (lv_at hl 3 rfl) ?_
        refine lv_iload_n hx hb dX4_mark_36 rfl (lv_at hl 0 rfl) ?_
        refine k_zald hx hb hK hM1.a6 (i) rfl (by omega) (by omega) dX4_mark_37 ?_
        rw [show (va_up x 6 h1) 6 (i) = b2i (hb_ i) from (by rw [up_eq]; exact hv i (by omega))]
        refine z_if_ne (tgt := 44) hx hb dX4_mark_38 (by decide) (fun c_623 => ?_) (fun c_623 => ?_)
        · skip
          rcases hfi : sF σ i with _ | p1
          · skip
            rcases hse : sS σ i with _ | p2
            · skip
              refine lv_aload_n hx hb dX4_mark_44 rfl (lv_at hl 1 rfl) ?_
              refine k_get (ci := 4) (C := RX4) (T := TX4) (N := 13) (v := .ref (μ 2)) hx hb hts (by decide +kernel) hown hK hM1.o rfl 1 (by decide) rfl (hts (.fieldLink RX4 14 RX4 "firsts" "[I") (by decide +kernel)) rfl dX4_mark_45 ?_
              refine lv_iload_n hx hb dX4_mark_48 rfl (lv_at hl 0 rfl) ?_
              refine k_iald hx hb hK hM1.a2 (i) rfl (by omega) (by omega) dX4_mark_49 ?_
              rw [show (va_up x 6 h1) 2 (i) = (-1) from (by have q := hR.2.2.1 i (by omega); rw [hfi] at q; exact q)]
              refine lv_if_lt (tgt := 62) hx hb dX4_mark_50 (by decide) (fun _ => ?_) (fun q => absurd (by decide +kernel) q)
              refine lv_aload_n hx hb dX4_mark_62 rfl (lv_at hl 1 rfl) ?_
              refine k_get (ci := 4) (C := RX4) (T := TX4) (N := 13) (v := .ref (μ 3)) hx hb hts (by decide +kernel) hown hK hM1.o rfl 2 (by decide) rfl (hts (.fieldLink RX4 18 RX4 "seconds" "[I") (by decide +kernel)) rfl dX4_mark_63 ?_
              refine lv_iload_n hx hb dX4_mark_66 rfl (lv_at hl 0 rfl) ?_
              refine k_iald hx hb hK hM1.a3 (i) rfl (by omega) (by omega) dX4_mark_67 ?_
              rw [show (va_up x 6 h1) 3 (i) = (-1) from (by have q := hR.2.2.2.1 i (by omega); rw [hse] at q; exact q)]
              refine lv_if_lt (tgt := 80) hx hb dX4_mark_68 (by decide) (fun _ => ?_) (fun q => absurd (by decide +kernel) q)
              refine lv_iinc (v := (nI i) + -1) (lv' := [(3, .int ((nI i) + -1)), (0, .ref (μ 0)), (1, .int (nI k)), (2, .ref (μ 6))]) hx hb dX4_mark_80 hl (k := 0) rfl rfl (by decide) rfl (fun ls hl => ?_)
              refine lv_goto (tgt := 31) hx hb dX4_mark_83 (by decide) ?_
              refine ih i _ H1 locs1 h1 hb_ (by omega) (by omega) (Int32.sub_eq_add_neg _ _).symm hM1 hF hLB ?_ (hI.yes hWF hk (by omega) c_623 ?_) ls (lv_sub hl [0, 1, 2, 3] rfl)
              · exact hv
              · intro j; rw [hfi, hse]; simp
            · skip
              have hp2 := (hWF.2.2.2.2.2 i (by omega)).2.1 p2 hse
              refine lv_aload_n hx hb dX4_mark_44 rfl (lv_at hl 1 rfl) ?_
              refine k_get (ci := 4) (C := RX4) (T := TX4) (N := 13) (v := .ref (μ 2)) hx hb hts (by decide +kernel) hown hK hM1.o rfl 1 (by decide) rfl (hts (.fieldLink RX4 14 RX4 "firsts" "[I") (by decide +kernel)) rfl dX4_mark_45 ?_
              refine lv_iload_n hx hb dX4_mark_48 rfl (lv_at hl 0 rfl) ?_
              refine k_iald hx hb hK hM1.a2 (i) rfl (by omega) (by omega) dX4_mark_49 ?_
              rw [show (va_up x 6 h1) 2 (i) = (-1) from (by have q := hR.2.2.1 i (by omega); rw [hfi] at q; exact q)]
              refine lv_if_lt (tgt := 62) hx hb dX4_mark_50 (by decide) (fun _ => ?_) (fun q => absurd (by decide +kernel) q)
              refine lv_aload_n hx hb dX4_mark_62 rfl (lv_at hl 1 rfl) ?_
              refine k_get (ci := 4) (C := RX4) (T := TX4) (N := 13) (v := .ref (μ 3)) hx hb hts (by decide +kernel) hown hK hM1.o rfl 2 (by decide) rfl (hts (.fieldLink RX4 18 RX4 "seconds" "[I") (by decide +kernel)) rfl dX4_mark_63 ?_
              refine lv_iload_n hx hb dX4_mark_66 rfl (lv_at hl 0 rfl) ?_
              refine k_iald hx hb hK hM1.a3 (i) rfl (by omega) (by omega) dX4_mark_67 ?_
              rw [show (va_up x 6 h1) 3 (i) = nI p2 from (by have q := hR.2.2.2.1 i (by omega); rw [hse] at q; exact q)]
              refine n_if_lt (tgt := 80) hx hb dX4_mark_68 (by decide) (by omega) ?_
              refine lv_aload_n hx hb dX4_mark_71 rfl (lv_at hl 3 rfl) ?_
              refine lv_aload_n hx hb dX4_mark_72 rfl (lv_at hl 1 rfl) ?_
              refine k_get (ci := 4) (C := RX4) (T := TX4) (N := 13) (v := .ref (μ 3)) hx hb hts (by decide +kernel) hown hK hM1.o rfl 2 (by decide) rfl (hts (.fieldLink RX4 18 RX4 "seconds" "[I") (by decide +kernel)) rfl dX4_mark_73 ?_
              refine lv_iload_n hx hb dX4_mark_76 rfl (lv_at hl 0 rfl) ?_
              refine k_iald hx hb hK hM1.a3 (i) rfl (by omega) (by omega) dX4_mark_77 ?_
              rw [show (va_up x 6 h1) 3 (i) = nI p2 from (by have q := hR.2.2.2.1 i (by omega); rw [hse] at q; exact q)]
              refine lv_iconst (v := b2i true) hx hb dX4_mark_78 (by decide +kernel) ?_
              refine k_zast (y := b2i true) hx hb hK hM1.a6 hLB (hM1.ge (by omega)) (p2) rfl (by omega) (by omega) (b2i_z _) dX4_mark_79 (fun H_624 locs_625 hw_626 hC_627 hLB_628 => ?_)
              have hM_629 := hM1.set (c := 6) (by omega) (by omega) (f := (upd ((va_up x 6 h1) 6) (p2) (b2i true))) hw_626 hC_627
              refine lv_iinc (v := (nI i) + -1) (lv' := [(3, .int ((nI i) + -1)), (0, .ref (μ 0)), (1, .int (nI k)), (2, .ref (μ 6))]) hx hb dX4_mark_80 hl (k := 0) rfl rfl (by decide) rfl (fun ls hl => ?_)
              refine lv_goto (tgt := 31) hx hb dX4_mark_83 (by decide) ?_
              have hM2 : MC D g b0 μ (sV σ) (sB σ) nC (va_up x 6 (upd h1 p2 (b2i true))) H_624 := by
                have q := hM_629
                simp only [up_eq, bx_uu] at q
                exact q
              refine ih i _ H_624 locs_625 (upd h1 p2 (b2i true)) (va_up hb_ p2 true) (by omega) (by omega) (Int32.sub_eq_add_neg _ _).symm hM2 (hF.tr (MFr.chg (by omega) hC_627)) hLB_628 ?_ (hI.yes hWF hk (by omega) c_623 ?_) ls (lv_sub hl [0, 1, 2, 3] rfl)
              · intro j hj
                by_cases e : j = p2
                · subst e; rw [pk_us, up_eq]
                · rw [pk_un e, up_ne _ _ e]; exact hv j hj
              · intro j
                rw [hfi, hse]
                unfold va_up
                by_cases e : j = p2
                · subst e; simp
                · have e3 : ¬ p2 = j := fun z => e z.symm
                  simp [e, e3]
          · skip
            have hp1 := (hWF.2.2.2.2.2 i (by omega)).1 p1 hfi
            rcases hse : sS σ i with _ | p2
            · skip
              refine lv_aload_n hx hb dX4_mark_44 rfl (lv_at hl 1 rfl) ?_
              refine k_get (ci := 4) (C := RX4) (T := TX4) (N := 13) (v := .ref (μ 2)) hx hb hts (by decide +kernel) hown hK hM1.o rfl 1 (by decide) rfl (hts (.fieldLink RX4 14 RX4 "firsts" "[I") (by decide +kernel)) rfl dX4_mark_45 ?_
              refine lv_iload_n hx hb dX4_mark_48 rfl (lv_at hl 0 rfl) ?_
              refine k_iald hx hb hK hM1.a2 (i) rfl (by omega) (by omega) dX4_mark_49 ?_
              rw [show (va_up x 6 h1) 2 (i) = nI p1 from (by have q := hR.2.2.1 i (by omega); rw [hfi] at q; exact q)]
              refine n_if_lt (tgt := 62) hx hb dX4_mark_50 (by decide) (by omega) ?_
              refine lv_aload_n hx hb dX4_mark_53 rfl (lv_at hl 3 rfl) ?_
              refine lv_aload_n hx hb dX4_mark_54 rfl (lv_at hl 1 rfl) ?_
              refine k_get (ci := 4) (C := RX4) (T := TX4) (N := 13) (v := .ref (μ 2)) hx hb hts (by decide +kernel) hown hK hM1.o rfl 1 (by decide) rfl (hts (.fieldLink RX4 14 RX4 "firsts" "[I") (by decide +kernel)) rfl dX4_mark_55 ?_
              refine lv_iload_n hx hb dX4_mark_58 rfl (lv_at hl 0 rfl) ?_
              refine k_iald hx hb hK hM1.a2 (i) rfl (by omega) (by omega) dX4_mark_59 ?_
              rw [show (va_up x 6 h1) 2 (i) = nI p1 from (by have q := hR.2.2.1 i (by omega); rw [hfi] at q; exact q)]
              refine lv_iconst (v := b2i true) hx hb dX4_mark_60 (by decide +kernel) ?_
              refine k_zast (y := b2i true) hx hb hK hM1.a6 hLB (hM1.ge (by omega)) (p1) rfl (by omega) (by omega) (b2i_z _) dX4_mark_61 (fun H_630 locs_631 hw_632 hC_633 hLB_634 => ?_)
              have hM_635 := hM1.set (c := 6) (by omega) (by omega) (f := (upd ((va_up x 6 h1) 6) (p1) (b2i true))) hw_632 hC_633
              refine lv_aload_n hx hb dX4_mark_62 rfl (lv_at hl 1 rfl) ?_
              refine k_get (ci := 4) (C := RX4) (T := TX4) (N := 13) (v := .ref (μ 3)) hx hb hts (by decide +kernel) hown hK hM_635.o rfl 2 (by decide) rfl (hts (.fieldLink RX4 18 RX4 "seconds" "[I") (by decide +kernel)) rfl dX4_mark_63 ?_
              refine lv_iload_n hx hb dX4_mark_66 rfl (lv_at hl 0 rfl) ?_
              refine k_iald hx hb hK hM_635.a3 (i) rfl (by omega) (by omega) dX4_mark_67 ?_
              rw [show (va_up (va_up x 6 h1) 6 (upd ((va_up x 6 h1) 6) (p1) (b2i true))) 3 (i) = (-1) from (by have q := hR.2.2.2.1 i (by omega); rw [hse] at q; exact q)]
              refine lv_if_lt (tgt := 80) hx hb dX4_mark_68 (by decide) (fun _ => ?_) (fun q => absurd (by decide +kernel) q)
              refine lv_iinc (v := (nI i) + -1) (lv' := [(3, .int ((nI i) + -1)), (0, .ref (μ 0)), (1, .int (nI k)), (2, .ref (μ 6))]) hx hb dX4_mark_80 hl (k := 0) rfl rfl (by decide) rfl (fun ls hl => ?_)
              refine lv_goto (tgt := 31) hx hb dX4_mark_83 (by decide) ?_
              have hM2 : MC D g b0 μ (sV σ) (sB σ) nC (va_up x 6 (upd h1 p1 (b2i true))) H_630 := by
                have q := hM_635
                simp only [up_eq, bx_uu] at q
                exact q
              refine ih i _ H_630 locs_631 (upd h1 p1 (b2i true)) (va_up hb_ p1 true) (by omega) (by omega) (Int32.sub_eq_add_neg _ _).symm hM2 (hF.tr (MFr.chg (by omega) hC_633)) hLB_634 ?_ (hI.yes hWF hk (by omega) c_623 ?_) ls (lv_sub hl [0, 1, 2, 3] rfl)
              · intro j hj
                by_cases e : j = p1
                · subst e; rw [pk_us, up_eq]
                · rw [pk_un e, up_ne _ _ e]; exact hv j hj
              · intro j
                rw [hfi, hse]
                unfold va_up
                by_cases e : j = p1
                · subst e; simp
                · have e3 : ¬ p1 = j := fun z => e z.symm
                  simp [e, e3]
            · skip
              have hp2 := (hWF.2.2.2.2.2 i (by omega)).2.1 p2 hse
              refine lv_aload_n hx hb dX4_mark_44 rfl (lv_at hl 1 rfl) ?_
              refine k_get (ci := 4) (C := RX4) (T := TX4) (N := 13) (v := .ref (μ 2)) hx hb hts (by decide +kernel) hown hK hM1.o rfl 1 (by decide) rfl (hts (.fieldLink RX4 14 RX4 "firsts" "[I") (by decide +kernel)) rfl dX4_mark_45 ?_
              refine lv_iload_n hx hb dX4_mark_48 rfl (lv_at hl 0 rfl) ?_
              refine k_iald hx hb hK hM1.a2 (i) rfl (by omega) (by omega) dX4_mark_49 ?_
              rw [show (va_up x 6 h1) 2 (i) = nI p1 from (by have q := hR.2.2.1 i (by omega); rw [hfi] at q; exact q)]
              refine n_if_lt (tgt := 62) hx hb dX4_mark_50 (by decide) (by omega) ?_
              refine lv_aload_n hx hb dX4_mark_53 rfl (lv_at hl 3 rfl) ?_
              refine lv_aload_n hx hb dX4_mark_54 rfl (lv_at hl 1 rfl) ?_
              refine k_get (ci := 4) (C := RX4) (T := TX4) (N := 13) (v := .ref (μ 2)) hx hb hts (by decide +kernel) hown hK hM1.o rfl 1 (by decide) rfl (hts (.fieldLink RX4 14 RX4 "firsts" "[I") (by decide +kernel)) rfl dX4_mark_55 ?_
              refine lv_iload_n hx hb dX4_mark_58 rfl (lv_at hl 0 rfl) ?_
              refine k_iald hx hb hK hM1.a2 (i) rfl (by omega) (by omega) dX4_mark_59 ?_
              rw [show (va_up x 6 h1) 2 (i) = nI p1 from (by have q := hR.2.2.1 i (by omega); rw [hfi] at q; exact q)]
              refine lv_iconst (v := b2i true) hx hb dX4_mark_60 (by decide +kernel) ?_
              refine k_zast (y := b2i true) hx hb hK hM1.a6 hLB (hM1.ge (by omega)) (p1) rfl (by omega) (by omega) (b2i_z _) dX4_mark_61 (fun H_636 locs_637 hw_638 hC_639 hLB_640 => ?_)
              have hM_641 := hM1.set (c := 6) (by omega) (by omega) (f := (upd ((va_up x 6 h1) 6) (p1) (b2i true))) hw_638 hC_639
              refine lv_aload_n hx hb dX4_mark_62 rfl (lv_at hl 1 rfl) ?_
              refine k_get (ci := 4) (C := RX4) (T := TX4) (N := 13) (v := .ref (μ 3)) hx hb hts (by decide +kernel) hown hK hM_641.o rfl 2 (by decide) rfl (hts (.fieldLink RX4 18 RX4 "seconds" "[I") (by decide +kernel)) rfl dX4_mark_63 ?_
              refine lv_iload_n hx hb dX4_mark_66 rfl (lv_at hl 0 rfl) ?_
              refine k_iald hx hb hK hM_641.a3 (i) rfl (by omega) (by omega) dX4_mark_67 ?_
              rw [show (va_up (va_up x 6 h1) 6 (upd ((va_up x 6 h1) 6) (p1) (b2i true))) 3 (i) = nI p2 from (by have q := hR.2.2.2.1 i (by omega); rw [hse] at q; exact q)]
              refine n_if_lt (tgt := 80) hx hb dX4_mark_68 (by decide) (by omega) ?_
              refine lv_aload_n hx hb dX4_mark_71 rfl (lv_at hl 3 rfl) ?_
              refine lv_aload_n hx hb dX4_mark_72 rfl (lv_at hl 1 rfl) ?_
              refine k_get (ci := 4) (C := RX4) (T := TX4) (N := 13) (v := .ref (μ 3)) hx hb hts (by decide +kernel) hown hK hM_641.o rfl 2 (by decide) rfl (hts (.fieldLink RX4 18 RX4 "seconds" "[I") (by decide +kernel)) rfl dX4_mark_73 ?_
              refine lv_iload_n hx hb dX4_mark_76 rfl (lv_at hl 0 rfl) ?_
              refine k_iald hx hb hK hM_641.a3 (i) rfl (by omega) (by omega) dX4_mark_77 ?_
              rw [show (va_up (va_up x 6 h1) 6 (upd ((va_up x 6 h1) 6) (p1) (b2i true))) 3 (i) = nI p2 from (by have q := hR.2.2.2.1 i (by omega); rw [hse] at q; exact q)]
              refine lv_iconst (v := b2i true) hx hb dX4_mark_78 (by decide +kernel) ?_
              refine k_zast (y := b2i true) hx hb hK hM_641.a6 hLB_640 (hM_641.ge (by omega)) (p2) rfl (by omega) (by omega) (b2i_z _) dX4_mark_79 (fun H_642 locs_643 hw_644 hC_645 hLB_646 => ?_)
              have hM_647 := hM_641.set (c := 6) (by omega) (by omega) (f := (upd ((va_up (va_up x 6 h1) 6 (upd ((va_up x 6 h1) 6) (p1) (b2i true))) 6) (p2) (b2i true))) hw_644 hC_645
              refine lv_iinc (v := (nI i) + -1) (lv' := [(3, .int ((nI i) + -1)), (0, .ref (μ 0)), (1, .int (nI k)), (2, .ref (μ 6))]) hx hb dX4_mark_80 hl (k := 0) rfl rfl (by decide) rfl (fun ls hl => ?_)
              refine lv_goto (tgt := 31) hx hb dX4_mark_83 (by decide) ?_
              have hM2 : MC D g b0 μ (sV σ) (sB σ) nC (va_up x 6 (upd (upd h1 p1 (b2i true)) p2 (b2i true))) H_642 := by
                have q := hM_647
                simp only [up_eq, bx_uu] at q
                exact q
              refine ih i _ H_642 locs_643 (upd (upd h1 p1 (b2i true)) p2 (b2i true)) (va_up (va_up hb_ p1 true) p2 true) (by omega) (by omega) (Int32.sub_eq_add_neg _ _).symm hM2 ((hF.tr (MFr.chg (by omega) hC_639)).tr (MFr.chg (by omega) hC_645)) hLB_646 ?_ (hI.yes hWF hk (by omega) c_623 ?_) ls (lv_sub hl [0, 1, 2, 3] rfl)
              · intro j hj
                by_cases e : j = p2
                · subst e; rw [pk_us, up_eq]
                · rw [pk_un e, up_ne _ _ e]
                  by_cases e2 : j = p1
                  · subst e2; rw [pk_us, up_eq]
                  · rw [pk_un e2, up_ne _ _ e2]; exact hv j hj
              · intro j
                rw [hfi, hse]
                unfold va_up
                by_cases e : j = p2
                · subst e; simp
                · have e3 : ¬ p2 = j := fun z => e z.symm
                  by_cases e2 : j = p1
                  · subst e2; simp
                  · have e4 : ¬ p1 = j := fun z => e2 z.symm
                    simp [e, e2, e3, e4]
        · skip
          refine lv_goto (tgt := 80) hx hb dX4_mark_41 (by decide) ?_
          refine lv_iinc (v := (nI i) + -1) (lv' := [(3, .int ((nI i) + -1)), (0, .ref (μ 0)), (1, .int (nI k)), (2, .ref (μ 6))]) hx hb dX4_mark_80 hl (k := 0) rfl rfl (by decide) rfl (fun ls hl => ?_)
          refine lv_goto (tgt := 31) hx hb dX4_mark_83 (by decide) ?_
          exact ih i _ H1 locs1 h1 hb_ (by omega) (by omega) (Int32.sub_eq_add_neg _ _).symm hM1 hF hLB hv (hI.no hWF hk (by omega) c_623) ls (lv_sub hl [0, 1, 2, 3] rfl)
  have loop : ∀ (n i : Nat) (H1 : Heap) (locs1 : List Loc) (h1 : Nat → Int32), sV σ < i + n → i ≤ sV σ → MC D g b0 μ (sV σ) (sB σ) nC (va_up x 6 h1) H1 → MFr μ H H1 → LB b0 locs1 → (∀ j, j < i → h1 j = b2i (decide (j = k))) → ∀ ls, lv_has ls 4 [(3, .int (nI i)), (0, .ref (μ 0)), (1, .int (nI k)), (2, .ref (μ 6))] → W p l e (headSpec wsX4_mark ({ frames := 0, cells := 0, slots := 0, locals := 0 } : Room)).room s m ([.ref (μ 0), .int (nI k), .ref (μ 6)] : List Value).toArray below meth c H1 locs1 0 0 (MQ below (kU (fun H1 => ∃ m1 : Nat → Int32, MC D g b0 μ (sV σ) (sB σ) nC (va_up x 6 m1) H1 ∧ MFr μ H H1 ∧ ∀ j, j < sV σ → m1 j = b2i (sA σ k j))) ([.ref (μ 0), .int (nI k), .ref (μ 6)] : List Value).toArray s 0 0 (kF b0)) (F0 m 2 ls []) := by
    intro n
    induction n with
    | zero => intro i H1 locs1 h1 h0 h1; omega
    | succ n ih =>
      intro i H1 locs1 h1 hn hi hM1 hF hLB hv ls hl
      refine lv_iload_n hx hb dX4_mark_2 rfl (lv_at hl 0 rfl) ?_
      refine lv_aload_n hx hb dX4_mark_3 rfl (lv_at hl 1 rfl) ?_
      refine k_get (ci := 4) (C := RX4) (T := TX4) (N := 13) (v := .int (nI (sV σ))) hx hb hts (by decide +kernel) hown hK hM1.o rfl 3 (by decide) rfl (hts (.fieldLink RX4 43 RX4 "versions" "I") (by decide +kernel)) rfl dX4_mark_4 ?_
      refine n_icmp_ge (tgt := 29) hx hb dX4_mark_7 (by decide) (by omega) (by omega) (fun c_648 => ?_) (fun c_648 => ?_)
      · skip
        refine lv_iload_n hx hb dX4_mark_29 rfl (lv_at hl 2 rfl) ?_
        refine lv_istore_n (lv' := [(3, .int (nI k)), (0, .ref (μ 0)), (1, .int (nI k)), (2, .ref (μ 6))]) hx hb dX4_mark_30 rfl hl (by decide) rfl (fun ls hl => ?_)
        exact loop2 (k + 2) (k + 1) _ H1 locs1 h1 (fun j => decide (j = k)) (by omega) (Nat.le_refl _) (nI_pred _).symm hM1 hF hLB (fun j hj => hv j (by omega)) (MInv.start hWF hk (fun j _ => rfl)) ls (lv_sub hl [0, 1, 2, 3] rfl)
      · skip
        refine lv_aload_n hx hb dX4_mark_10 rfl (lv_at hl 3 rfl) ?_
        refine lv_iload_n hx hb dX4_mark_11 rfl (lv_at hl 0 rfl) ?_
        refine lv_iload_n hx hb dX4_mark_12 rfl (lv_at hl 0 rfl) ?_
        refine lv_iload_n hx hb dX4_mark_13 rfl (lv_at hl 2 rfl) ?_
        refine n_icmp_ne (tgt := 21) hx hb dX4_mark_14 (by decide) (by omega) (by omega) (fun c_649 => ?_) (fun c_649 => ?_)
        · skip
          refine lv_iconst (v := b2i false) hx hb dX4_mark_21 (by decide +kernel) ?_
          refine k_zast (y := b2i false) hx hb hK hM1.a6 hLB (hM1.ge (by omega)) (i) rfl (by omega) (by omega) (b2i_z _) dX4_mark_22 (fun H_650 locs_651 hw_652 hC_653 hLB_654 => ?_)
          have hM_655 := hM1.set (c := 6) (by omega) (by omega) (f := (upd ((va_up x 6 h1) 6) (i) (b2i false))) hw_652 hC_653
          refine lv_iinc (v := nI (i + 1)) (lv' := [(3, .int (nI (i + 1))), (0, .ref (μ 0)), (1, .int (nI k)), (2, .ref (μ 6))]) hx hb dX4_mark_23 hl (k := 0) rfl (nI_add (i) 1) (by decide) rfl (fun ls hl => ?_)
          refine lv_goto (tgt := 2) hx hb dX4_mark_26 (by decide) ?_
          have hM2 : MC D g b0 μ (sV σ) (sB σ) nC (va_up x 6 (upd h1 i (b2i false))) H_650 := by
            have q := hM_655
            rw [up_eq, bx_uu] at q
            exact q
          refine ih (i + 1) H_650 locs_651 _ (by omega) (by omega) hM2 (hF.tr (MFr.chg (by omega) hC_653)) hLB_654 ?_ ls (lv_sub hl [0, 1, 2, 3] rfl)
          intro t ht
          by_cases e : t = i
          · subst e; rw [pk_us, decide_eq_false c_649]
          · rw [pk_un e]; exact hv t (by omega)
        · skip
          refine lv_iconst (v := b2i true) hx hb dX4_mark_17 (by decide +kernel) ?_
          refine lv_goto (tgt := 22) hx hb dX4_mark_18 (by decide) ?_
          refine k_zast (y := b2i true) hx hb hK hM1.a6 hLB (hM1.ge (by omega)) (i) rfl (by omega) (by omega) (b2i_z _) dX4_mark_22 (fun H_656 locs_657 hw_658 hC_659 hLB_660 => ?_)
          have hM_661 := hM1.set (c := 6) (by omega) (by omega) (f := (upd ((va_up x 6 h1) 6) (i) (b2i true))) hw_658 hC_659
          refine lv_iinc (v := nI (i + 1)) (lv' := [(3, .int (nI (i + 1))), (0, .ref (μ 0)), (1, .int (nI k)), (2, .ref (μ 6))]) hx hb dX4_mark_23 hl (k := 0) rfl (nI_add (i) 1) (by decide) rfl (fun ls hl => ?_)
          refine lv_goto (tgt := 2) hx hb dX4_mark_26 (by decide) ?_
          have hM2 : MC D g b0 μ (sV σ) (sB σ) nC (va_up x 6 (upd h1 i (b2i true))) H_656 := by
            have q := hM_661
            rw [up_eq, bx_uu] at q
            exact q
          refine ih (i + 1) H_656 locs_657 _ (by omega) (by omega) hM2 (hF.tr (MFr.chg (by omega) hC_659)) hLB_660 ?_ ls (lv_sub hl [0, 1, 2, 3] rfl)
          intro t ht
          by_cases e : t = i
          · subst e; rw [pk_us, decide_eq_true c_649]
          · rw [pk_un e]; exact hv t (by omega)
  exact loop (sV σ + 1) 0 H [] (x 6) (by omega) (by omega) (by rw [up_self]; exact hM) MFr.rf LB.nil (fun t h => by omega) ls (lv_sub hl [0, 1, 2, 3] rfl)
set_option maxHeartbeats 4000000 in
set_option maxRecDepth 100000 in
/-- common(u, v) -/
theorem c_X4_common (l : Launch) (D : va_G) (g : Nat → ClassId) (b0 : Nat) (H : Heap) (μ : Nat → Nat) (σ : SG) (nC : Nat) (x : Nat → Nat → Int32) (hM : MC D g b0 μ (sV σ) (sB σ) nC x H) (hR : MR σ x) (hC4 : nC ≤ 64) (u v : Nat) (hu : u < sV σ) (hv : v < sV σ) (o : Option Nat) (ho : GCo (sA σ u) (sA σ v) (sV σ) o) : Met l yX4_common wsX4_common ({ frames := 1, cells := 0, slots := 0, locals := 23 } : Room) (kPc D g [.ref (μ 0), .int (nI u), .int (nI v)] H) (kI (fun r H1 => r = pI o ∧ ∃ m1 m2 : Nat → Int32, MC D g b0 μ (sV σ) (sB σ) nC (va_up (va_up x 5 m1) 6 m2) H1 ∧ MFr μ H H1)) 0 0 (kF b0) := by
  refine Met.ofW (cc := cX4_common) (maxL := 4) (ret := (some .int)) (by decide) rfl ?_
  intro p e s m args below meth c s₁ B hml hv
  obtain ⟨rfl, hH, hK⟩ := hv
  have hx := B.exec
  have hb := B.bytes
  have hr := B.returns
  have hts := atoms_spec (ws := wsX4_common) B.pre
  have hown : s.vm.findClass RX4 = some m.cls := findClass_of_methodNamed B.named
  have hlocks := B.notSynchronized
  rw [hH]
  have hl := lv_entry ([.ref (μ 0), .int (nI u), .int (nI v)]) (n := 4) (Nat.le_of_ble_eq_true rfl)
  rw [lg_entry_eq]
  generalize (lg_sl ([.ref (μ 0), .int (nI u), .int (nI v)]) ++ List.replicate (4 - (lg_sl ([.ref (μ 0), .int (nI u), .int (nI v)])).length) Slot.unset).toArray = ls at hl ⊢
  have hl : lv_has ls 4 [(0, .ref (μ 0)), (1, .int (nI u)), (2, .int (nI v))] := hl
  have hWF := hR.1
  have hV4 : sV σ ≤ 400 := hWF.2.1
  have hB4 : sB σ ≤ 40 := hWF.2.2.2.1
  refine lv_aload_n hx hb dX4_common_0 rfl (lv_at hl 0 rfl) ?_
  refine lv_iload_n hx hb dX4_common_1 rfl (lv_at hl 1 rfl) ?_
  refine lv_aload_n hx hb dX4_common_2 rfl (lv_at hl 0 rfl) ?_
  refine k_get (ci := 4) (C := RX4) (T := TX4) (N := 13) (v := .ref (μ 5)) hx hb hts (by decide +kernel) hown hK hM.o rfl 6 (by decide) rfl (hts (.fieldLink RX4 24 RX4 "ones" "[Z") (by decide +kernel)) rfl dX4_common_3 ?_
  refine k_callU (va_runV (As := [.int (nI u), .ref (μ 5)]) (rest := []) ⟨hx, hb, hml, hown, hts⟩ (c_X4_mark_5 l D g b0 H μ σ nC x hM hR hC4 u hu) (cwV 2 hts gX4_common_X4_mark rfl rfl rfl (by decide +kernel) ⟨Nat.le_of_ble_eq_true rfl, Nat.le_of_ble_eq_true rfl⟩) ⟨kPc_blind, k_recv hK hM.o rfl, fun U hU hW => kPc_at hK hU hW⟩ rfl rfl hl.1 rfl (lv_room (Nat.le_of_ble_eq_true rfl)) dX4_common_6 ⟨Nat.le_of_ble_eq_true rfl, Nat.le_of_ble_eq_true rfl⟩) LB.nil (fun H1 locs1 hLB1 hq1 => ?_)
  obtain ⟨m1, hM1, hF1, hm1⟩ := hq1
  refine lv_aload_n hx hb dX4_common_9 rfl (lv_at hl 0 rfl) ?_
  refine lv_iload_n hx hb dX4_common_10 rfl (lv_at hl 2 rfl) ?_
  refine lv_aload_n hx hb dX4_common_11 rfl (lv_at hl 0 rfl) ?_
  refine k_get (ci := 4) (C := RX4) (T := TX4) (N := 13) (v := .ref (μ 6)) hx hb hts (by decide +kernel) hown hK hM1.o rfl 7 (by decide) rfl (hts (.fieldLink RX4 28 RX4 "twos" "[Z") (by decide +kernel)) rfl dX4_common_12 ?_
  refine k_callU (va_runV (As := [.int (nI v), .ref (μ 6)]) (rest := []) ⟨hx, hb, hml, hown, hts⟩ (c_X4_mark_6 l D g b0 H1 μ σ nC (va_up x 5 m1) hM1 (hR.up (by omega) m1) hC4 v hv) (cwV 2 hts gX4_common_X4_mark rfl rfl rfl (by decide +kernel) ⟨Nat.le_of_ble_eq_true rfl, Nat.le_of_ble_eq_true rfl⟩) ⟨kPc_blind, k_recv hK hM1.o rfl, fun U hU hW => kPc_at hK hU hW⟩ rfl rfl hl.1 rfl (lv_room (Nat.le_of_ble_eq_true rfl)) dX4_common_15 ⟨Nat.le_of_ble_eq_true rfl, Nat.le_of_ble_eq_true rfl⟩) hLB1 (fun H2 locs2 hLB2 hq2 => ?_)
  obtain ⟨m2, hM2, hF2, hm2⟩ := hq2
  refine lv_aload_n hx hb dX4_common_18 rfl (lv_at hl 0 rfl) ?_
  refine k_get (ci := 4) (C := RX4) (T := TX4) (N := 13) (v := .int (nI (sV σ))) hx hb hts (by decide +kernel) hown hK hM2.o rfl 3 (by decide) rfl (hts (.fieldLink RX4 43 RX4 "versions" "I") (by decide +kernel)) rfl dX4_common_19 ?_
  refine lv_iconst (v := nI 1) hx hb dX4_common_22 (by decide +kernel) ?_
  refine lv_isub hx hb dX4_common_23 ?_
  refine lv_istore_n (lv' := [(3, .int ((nI (sV σ)) - (nI 1))), (0, .ref (μ 0)), (1, .int (nI u)), (2, .int (nI v))]) hx hb dX4_common_24 rfl hl (by decide) rfl (fun ls hl => ?_)
  have loop : ∀ (n i : Nat) (y : Int32), i < n → i ≤ sV σ → y = nI i - 1 → (∀ z, i ≤ z → z < sV σ → ¬ (sA σ u z = true ∧ sA σ v z = true)) → ∀ ls, lv_has ls 4 [(3, .int y), (0, .ref (μ 0)), (1, .int (nI u)), (2, .int (nI v))] → W p l e (headSpec wsX4_common ({ frames := 1, cells := 0, slots := 0, locals := 23 } : Room)).room s m ([.ref (μ 0), .int (nI u), .int (nI v)] : List Value).toArray below meth c H2 locs2 0 0 (MQ below (kI (fun r H1 => r = pI o ∧ ∃ m1 m2 : Nat → Int32, MC D g b0 μ (sV σ) (sB σ) nC (va_up (va_up x 5 m1) 6 m2) H1 ∧ MFr μ H H1)) ([.ref (μ 0), .int (nI u), .int (nI v)] : List Value).toArray s 0 0 (kF b0)) (F0 m 25 ls []) := by
    intro n
    induction n with
    | zero => intro i y h0 h1; omega
    | succ n ih =>
      intro i y hn hi hy hv2 ls hl
      cases i with
      | zero =>
        have hno : o = none := by
          cases o with
          | none => rfl
          | some c => exact absurd ⟨ho.2.1, ho.2.2.1⟩ (hv2 c (Nat.zero_le _) ho.1)
        have hy1 : y = -1 := by rw [hy]; decide +kernel
        refine lv_iload_n hx hb dX4_common_25 rfl (lv_at hl 0 rfl) ?_
        refine lv_if_lt (tgt := 53) hx hb dX4_common_26 (by decide) (fun _ => ?_) (fun q => absurd (by rw [hy1]; decide) q)
        refine lv_iload_n hx hb dX4_common_53 rfl (lv_at hl 0 rfl) ?_
        exact r_iI hx hb hr hLB2 (Nat.le_refl _) (Nat.le_refl _) ⟨by rw [hno, hy1]; rfl, m1, m2, hM2, hF1.tr hF2⟩ dX4_common_54 hlocks
      | succ i =>
        obtain rfl : y = nI i := hy.trans (nI_pred i)
        refine lv_iload_n hx hb dX4_common_25 rfl (lv_at hl 0 rfl) ?_
        refine n_if_lt (tgt := 53) hx hb dX4_common_26 (by decide) (by omega) ?_
        refine lv_aload_n hx hb dX4_common_29 rfl (lv_at hl 1 rfl) ?_
        refine k_get (ci := 4) (C := RX4) (T := TX4) (N := 13) (v := .ref (μ 5)) hx hb hts (by decide +kernel) hown hK hM2.o rfl 6 (by decide) rfl (hts (.fieldLink RX4 24 RX4 "ones" "[Z") (by decide +kernel)) rfl dX4_common_30 ?_
        refine lv_iload_n hx hb dX4_common_33 rfl (lv_at hl 0 rfl) ?_
        refine k_zald hx hb hK hM2.a5 (i) rfl (by omega) (by omega) dX4_common_34 ?_
        rw [show (va_up (va_up x 5 m1) 6 m2) 5 (i) = b2i (sA σ u i) from (hm1 i (by omega))]
        refine z_if_eq (tgt := 47) hx hb dX4_common_35 (by decide) (fun c_663 => ?_) (fun c_663 => ?_)
        · skip
          refine lv_iinc (v := (nI i) + -1) (lv' := [(3, .int ((nI i) + -1)), (0, .ref (μ 0)), (1, .int (nI u)), (2, .int (nI v))]) hx hb dX4_common_47 hl (k := 0) rfl rfl (by decide) rfl (fun ls hl => ?_)
          refine lv_goto (tgt := 25) hx hb dX4_common_50 (by decide) ?_
          refine ih i _ (by omega) (by omega) (Int32.sub_eq_add_neg _ _).symm ?_ ls (lv_sub hl [0, 1, 2, 3] rfl)
          intro z hz hz2
          rcases Nat.lt_or_ge i z with q | q
          · exact hv2 z q hz2
          · rw [show z = i by omega]; intro q2; rw [c_663] at q2; cases q2.1
        · skip
          refine lv_aload_n hx hb dX4_common_38 rfl (lv_at hl 1 rfl) ?_
          refine k_get (ci := 4) (C := RX4) (T := TX4) (N := 13) (v := .ref (μ 6)) hx hb hts (by decide +kernel) hown hK hM2.o rfl 7 (by decide) rfl (hts (.fieldLink RX4 28 RX4 "twos" "[Z") (by decide +kernel)) rfl dX4_common_39 ?_
          refine lv_iload_n hx hb dX4_common_42 rfl (lv_at hl 0 rfl) ?_
          refine k_zald hx hb hK hM2.a6 (i) rfl (by omega) (by omega) dX4_common_43 ?_
          rw [show (va_up (va_up x 5 m1) 6 m2) 6 (i) = b2i (sA σ v i) from (hm2 i (by omega))]
          refine z_if_ne (tgt := 53) hx hb dX4_common_44 (by decide) (fun c_664 => ?_) (fun c_664 => ?_)
          · skip
            refine lv_iload_n hx hb dX4_common_53 rfl (lv_at hl 0 rfl) ?_
            have hso : o = some i := by
              cases o with
              | none => exact absurd ⟨c_663, c_664⟩ (ho i (by omega))
              | some c =>
                rcases Nat.lt_trichotomy i c with q | q | q
                · exact absurd ⟨ho.2.1, ho.2.2.1⟩ (hv2 c (by omega) ho.1)
                · rw [q]
                · exact absurd ⟨c_663, c_664⟩ (ho.2.2.2 i q (by omega))
            exact r_iI hx hb hr hLB2 (Nat.le_refl _) (Nat.le_refl _) ⟨by rw [hso]; rfl, m1, m2, hM2, hF1.tr hF2⟩ dX4_common_54 hlocks
          · skip
            refine lv_iinc (v := (nI i) + -1) (lv' := [(3, .int ((nI i) + -1)), (0, .ref (μ 0)), (1, .int (nI u)), (2, .int (nI v))]) hx hb dX4_common_47 hl (k := 0) rfl rfl (by decide) rfl (fun ls hl => ?_)
            refine lv_goto (tgt := 25) hx hb dX4_common_50 (by decide) ?_
            refine ih i _ (by omega) (by omega) (Int32.sub_eq_add_neg _ _).symm ?_ ls (lv_sub hl [0, 1, 2, 3] rfl)
            intro z hz hz2
            rcases Nat.lt_or_ge i z with q | q
            · exact hv2 z q hz2
            · rw [show z = i by omega]; intro q2; rw [c_664] at q2; cases q2.2
  exact loop (sV σ + 1) (sV σ) _ (by omega) (Nat.le_refl _) rfl (fun z h1 h2 => by omega) ls hl

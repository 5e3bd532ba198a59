/-! 09: what a state of the class IS: versions V, branches B, words of each version, first and second parents, heads, ancestors, the merged words; and the cells that hold it, at addresses by codes -/
abbrev SG : Type := Nat × Nat × (Nat → Nat → Int64) × (Nat → Option Nat) × (Nat → Option Nat) × (Nat → Nat) × (Nat → Nat → Bool) × (Nat → Int64)
abbrev sV (σ : SG) : Nat := σ.1
abbrev sB (σ : SG) : Nat := σ.2.1
abbrev sW (σ : SG) : Nat → Nat → Int64 := σ.2.2.1
abbrev sF (σ : SG) : Nat → Option Nat := σ.2.2.2.1
abbrev sS (σ : SG) : Nat → Option Nat := σ.2.2.2.2.1
abbrev sH (σ : SG) : Nat → Nat := σ.2.2.2.2.2.1
abbrev sA (σ : SG) : Nat → Nat → Bool := σ.2.2.2.2.2.2.1
abbrev sM (σ : SG) : Nat → Int64 := σ.2.2.2.2.2.2.2
def gGrow (σ : SG) (f s : Option Nat) (w : Nat → Int64) (an : Nat → Bool) : SG := (sV σ + 1, sB σ, va_up (sW σ) (sV σ) w, va_up (sF σ) (sV σ) f, va_up (sS σ) (sV σ) s, sH σ, va_up (sA σ) (sV σ) an, sM σ)
def gHead (σ : SG) (b v : Nat) : SG := (sV σ, sB σ, sW σ, sF σ, sS σ, va_up (sH σ) b v, sA σ, sM σ)
def gBr (σ : SG) (v : Nat) : SG := (sV σ, sB σ + 1, sW σ, sF σ, sS σ, va_up (sH σ) (sB σ) v, sA σ, sM σ)
def gM (σ : SG) (m : Nat → Int64) : SG := (sV σ, sB σ, sW σ, sF σ, sS σ, sH σ, sA σ, m)
/-- a parent's ancestors; none has none -/
def anO (σ : SG) (o : Option Nat) (j : Nat) : Bool := match o with
  | none => false
  | some p => sA σ p j
def AnOK (σ : SG) (v : Nat) (f s : Option Nat) (an : Nat → Bool) : Prop := ∀ j, j < 400 → an j = (decide (j = v) || anO σ f j || anO σ s j)
def OLt (o : Option Nat) (n : Nat) : Prop := ∀ p, o = some p → p < n
def WF (σ : SG) : Prop := 0 ≤ sV σ ∧ sV σ ≤ 400 ∧ 0 ≤ sB σ ∧ sB σ ≤ 40 ∧ (∀ b, b < sB σ → sH σ b < sV σ) ∧ ∀ k, k < sV σ → OLt (sF σ k) k ∧ OLt (sS σ k) k ∧ AnOK σ k (sF σ k) (sS σ k) (sA σ k)
theorem up_eq {α : Type} (f : Nat → α) (k : Nat) (v : α) : va_up f k v k = v := if_pos rfl
theorem up_ne {α : Type} (f : Nat → α) {k j : Nat} (v : α) (h : j ≠ k) : va_up f k v j = f j := if_neg h
theorem anO_up {σ : SG} {f s : Option Nat} {w : Nat → Int64} {an : Nat → Bool} {o : Option Nat} (ho : OLt o (sV σ)) (j : Nat) : anO (gGrow σ f s w an) o j = anO σ o j := by
  cases o with
  | none => rfl
  | some p =>
    have := ho p rfl
    show va_up (sA σ) (sV σ) an p j = sA σ p j
    rw [up_ne _ _ (by omega)]
theorem WF.grow {σ : SG} (h : WF σ) {f s : Option Nat} {w : Nat → Int64} {an : Nat → Bool} (hV : sV σ < 400) (hf : OLt f (sV σ)) (hs : OLt s (sV σ)) (ha : AnOK σ (sV σ) f s an) : WF (gGrow σ f s w an) := by
  obtain ⟨h1, h2, h3, h4, h5, h6⟩ := h
  refine ⟨Nat.zero_le _, hV, h3, h4, fun b hb => Nat.lt_succ_of_lt (h5 b hb), fun k hk => ?_⟩
  have hk : k < sV σ + 1 := hk
  by_cases e : k = sV σ
  · subst e
    refine ⟨?_, ?_, ?_⟩
    · show OLt (va_up (sF σ) (sV σ) f (sV σ)) _; rw [up_eq]; exact hf
    · show OLt (va_up (sS σ) (sV σ) s (sV σ)) _; rw [up_eq]; exact hs
    · show AnOK _ _ (va_up (sF σ) (sV σ) f (sV σ)) (va_up (sS σ) (sV σ) s (sV σ)) (va_up (sA σ) (sV σ) an (sV σ))
      rw [up_eq, up_eq, up_eq]
      intro j hj
      rw [anO_up hf, anO_up hs]
      exact ha j hj
  · have hk2 : k < sV σ := by omega
    obtain ⟨q1, q2, q3⟩ := h6 k hk2
    refine ⟨?_, ?_, ?_⟩
    · show OLt (va_up (sF σ) (sV σ) f k) _; rw [up_ne _ _ e]; exact q1
    · show OLt (va_up (sS σ) (sV σ) s k) _; rw [up_ne _ _ e]; exact q2
    · show AnOK _ _ (va_up (sF σ) (sV σ) f k) (va_up (sS σ) (sV σ) s k) (va_up (sA σ) (sV σ) an k)
      rw [up_ne _ _ e, up_ne _ _ e, up_ne _ _ e]
      intro j hj
      rw [anO_up (fun p hp => Nat.lt_trans (q1 p hp) hk2), anO_up (fun p hp => Nat.lt_trans (q2 p hp) hk2)]
      exact q3 j hj
theorem WF.head {σ : SG} (h : WF σ) {b v : Nat} (hv : v < sV σ) : WF (gHead σ b v) := by
  obtain ⟨h1, h2, h3, h4, h5, h6⟩ := h
  refine ⟨h1, h2, h3, h4, fun b' hb => ?_, h6⟩
  show va_up (sH σ) b v b' < sV σ
  by_cases e : b' = b
  · subst e; rw [up_eq]; exact hv
  · rw [up_ne _ _ e]; exact h5 b' hb
theorem WF.br {σ : SG} (h : WF σ) {v : Nat} (hB : sB σ < 40) (hv : v < sV σ) : WF (gBr σ v) := by
  obtain ⟨h1, h2, h3, h4, h5, h6⟩ := h
  refine ⟨h1, h2, Nat.zero_le _, hB, fun b' hb => ?_, h6⟩
  have hb : b' < sB σ + 1 := hb
  show va_up (sH σ) (sB σ) v b' < sV σ
  by_cases e : b' = sB σ
  · subst e; rw [up_eq]; exact hv
  · rw [up_ne _ _ e]; exact h5 b' (by omega)
theorem WF.m {σ : SG} (h : WF σ) {m : Nat → Int64} : WF (gM σ m) := h
/-- an ancestor isn't later -/
theorem WF.anc {σ : SG} (h : WF σ) : ∀ n k, k < n → k < sV σ → ∀ j, j < 400 → sA σ k j = true → j ≤ k
  | 0, k, h0, _, _, _, _ => by omega
  | n + 1, k, hn, hk, j, hj, ha => by
    obtain ⟨q1, q2, q3⟩ := h.2.2.2.2.2 k hk
    rw [q3 j hj] at ha
    rw [Bool.or_eq_true, Bool.or_eq_true] at ha
    have step : ∀ o : Option Nat, OLt o k → anO σ o j = true → j ≤ k := by
      intro o ho h1
      cases o with
      | none => cases h1
      | some p =>
        have hp := ho p rfl
        have := WF.anc h n p (by omega) (by omega) j hj h1
        omega
    rcases ha with (ha | ha) | ha
    · have := of_decide_eq_true ha; omega
    · exact step _ q1 ha
    · exact step _ q2 ha
theorem WF.self {σ : SG} (h : WF σ) {k : Nat} (hk : k < sV σ) : sA σ k k = true := by
  obtain ⟨q1, q2, q3⟩ := h.2.2.2.2.2 k hk
  rw [q3 k (by have := h.2.1; omega), show decide (k = k) = true from decide_eq_true rfl]
  rfl
/-- which codes stand for cells -/
def cLive (σ : SG) (c : Nat) : Prop := c < 9 ∨ (16 ≤ c ∧ c < 16 + 4 * sV σ) ∨ (2000 ≤ c ∧ c < 2000 + sB σ)
abbrev oA (A : Nat → Nat) (o : Option Nat) : Option Nat := o.map (fun p => A (16 + 4 * p))
def CR (D : va_G) (g : Nat → ClassId) (b0 : Nat) (A : Nat → Nat) (σ : SG) (dw : Nat → Int64) (H : Heap) : Prop :=
  WF σ ∧ (∀ c c', cLive σ c → cLive σ c' → A c = A c' → c = c') ∧ (∀ c, cLive σ c → b0 ≤ A c) ∧
  HA D H (A 0) (eO 3 [.ref (A 1), .ref (A 2), .int (nI (sV σ)), .int (nI (sB σ)), .ref (A 3), .ref (A 5), .ref (A 7)]) ∧
  HA D H (A 1) (eQ (g 5) 400 (fun k => if k < sV σ then some (A (16 + 4 * k)) else none)) ∧
  HA D H (A 2) (eQ (g 4) 40 (fun k => if k < sB σ then some (A (2000 + k)) else none)) ∧
  HA D H (A 3) (eO 1 [.ref (A 4)]) ∧ HA D H (A 4) (eL (g 2) 64 (fun _ => 0)) ∧
  HA D H (A 5) (eO 1 [.ref (A 6)]) ∧ HA D H (A 6) (eL (g 2) 64 (sM σ)) ∧
  HA D H (A 7) (eO 1 [.ref (A 8)]) ∧ HA D H (A 8) (eL (g 2) 64 dw) ∧
  (∀ k, k < sV σ → HA D H (A (16 + 4 * k)) (eO 2 [.int (nI k), va_rf (oA A (sF σ k)), va_rf (oA A (sS σ k)), .ref (A (17 + 4 * k)), .ref (A (19 + 4 * k))]) ∧ HA D H (A (17 + 4 * k)) (eO 1 [.ref (A (18 + 4 * k))]) ∧ HA D H (A (18 + 4 * k)) (eL (g 2) 64 (sW σ k)) ∧ HA D H (A (19 + 4 * k)) (eI (g 3) 400 (fun j => b2i (sA σ k j)))) ∧
  (∀ b, b < sB σ → HA D H (A (2000 + b)) (eO 0 [.ref (A (16 + 4 * sH σ b))]))
section CRS
variable {D : va_G} {g : Nat → ClassId} {b0 : Nat} {A : Nat → Nat} {σ : SG} {dw : Nat → Int64} {H H1 : Heap}
theorem CR.wf (h : CR D g b0 A σ dw H) : WF σ := h.1
theorem CR.ge (h : CR D g b0 A σ dw H) {c : Nat} (hc : cLive σ c) : b0 ≤ A c := h.2.2.1 c hc
theorem CR.ne (h : CR D g b0 A σ dw H) {c c' : Nat} (hc : cLive σ c) (hc' : cLive σ c') (hn : c ≠ c') : A c ≠ A c' := fun e => hn (h.2.1 c c' hc hc' e)
theorem CR.o (h : CR D g b0 A σ dw H) : HA D H (A 0) (eO 3 [.ref (A 1), .ref (A 2), .int (nI (sV σ)), .int (nI (sB σ)), .ref (A 3), .ref (A 5), .ref (A 7)]) := h.2.2.2.1
theorem CR.vr (h : CR D g b0 A σ dw H) : HA D H (A 1) (eQ (g 5) 400 (fun k => if k < sV σ then some (A (16 + 4 * k)) else none)) := h.2.2.2.2.1
theorem CR.br (h : CR D g b0 A σ dw H) : HA D H (A 2) (eQ (g 4) 40 (fun k => if k < sB σ then some (A (2000 + k)) else none)) := h.2.2.2.2.2.1
theorem CR.nt (h : CR D g b0 A σ dw H) : HA D H (A 3) (eO 1 [.ref (A 4)]) := h.2.2.2.2.2.2.1
theorem CR.nw (h : CR D g b0 A σ dw H) : HA D H (A 4) (eL (g 2) 64 (fun _ => 0)) := h.2.2.2.2.2.2.2.1
theorem CR.mg (h : CR D g b0 A σ dw H) : HA D H (A 5) (eO 1 [.ref (A 6)]) := h.2.2.2.2.2.2.2.2.1
theorem CR.mw (h : CR D g b0 A σ dw H) : HA D H (A 6) (eL (g 2) 64 (sM σ)) := h.2.2.2.2.2.2.2.2.2.1
theorem CR.dr (h : CR D g b0 A σ dw H) : HA D H (A 7) (eO 1 [.ref (A 8)]) := h.2.2.2.2.2.2.2.2.2.2.1
theorem CR.drw (h : CR D g b0 A σ dw H) : HA D H (A 8) (eL (g 2) 64 dw) := h.2.2.2.2.2.2.2.2.2.2.2.1
theorem CR.ver (h : CR D g b0 A σ dw H) {k : Nat} (hk : k < sV σ) : HA D H (A (16 + 4 * k)) (eO 2 [.int (nI k), va_rf (oA A (sF σ k)), va_rf (oA A (sS σ k)), .ref (A (17 + 4 * k)), .ref (A (19 + 4 * k))]) := (h.2.2.2.2.2.2.2.2.2.2.2.2.1 k hk).1
theorem CR.ts (h : CR D g b0 A σ dw H) {k : Nat} (hk : k < sV σ) : HA D H (A (17 + 4 * k)) (eO 1 [.ref (A (18 + 4 * k))]) := (h.2.2.2.2.2.2.2.2.2.2.2.2.1 k hk).2.1
theorem CR.tw (h : CR D g b0 A σ dw H) {k : Nat} (hk : k < sV σ) : HA D H (A (18 + 4 * k)) (eL (g 2) 64 (sW σ k)) := (h.2.2.2.2.2.2.2.2.2.2.2.2.1 k hk).2.2.1
theorem CR.an (h : CR D g b0 A σ dw H) {k : Nat} (hk : k < sV σ) : HA D H (A (19 + 4 * k)) (eI (g 3) 400 (fun j => b2i (sA σ k j))) := (h.2.2.2.2.2.2.2.2.2.2.2.2.1 k hk).2.2.2
theorem CR.ba (h : CR D g b0 A σ dw H) {b : Nat} (hb : b < sB σ) : HA D H (A (2000 + b)) (eO 0 [.ref (A (16 + 4 * sH σ b))]) := h.2.2.2.2.2.2.2.2.2.2.2.2.2 b hb
theorem cl0 {σ : SG} {c : Nat} (h : c < 9) : cLive σ c := Or.inl h
theorem clV {σ : SG} {c : Nat} (k : Nat) (h : k < sV σ) (h1 : 16 + 4 * k ≤ c) (h2 : c < 20 + 4 * k) : cLive σ c := Or.inr (Or.inl ⟨by omega, by omega⟩)
theorem clB {σ : SG} {b : Nat} (h : b < sB σ) : cLive σ (2000 + b) := Or.inr (Or.inr ⟨by omega, by omega⟩)
/-- every live cell but one is as it was -/
theorem CR.kept (h : CR D g b0 A σ dw H) {c0 : Nat} (h0 : cLive σ c0) (hC : Chg H H1 (A c0)) {c : Nat} (hc : cLive σ c) (hn : c ≠ c0) {e : va_E} (he : HA D H (A c) e) : HA D H1 (A c) e := he.chg hC (h.ne hc h0 hn)
theorem CR.draft (h : CR D g b0 A σ dw H) {dw' : Nat → Int64} (hw : HA D H1 (A 8) (eL (g 2) 64 dw')) (hC : Chg H H1 (A 8)) : CR D g b0 A σ dw' H1 := by
  have K : ∀ {c : Nat}, cLive σ c → c ≠ 8 → ∀ {e : va_E}, HA D H (A c) e → HA D H1 (A c) e := fun {_} hc hn {_} he => h.kept (cl0 (by omega)) hC hc hn he
  exact ⟨h.1, h.2.1, h.2.2.1, K (cl0 (by omega)) (by omega) h.o, K (cl0 (by omega)) (by omega) h.vr, K (cl0 (by omega)) (by omega) h.br, K (cl0 (by omega)) (by omega) h.nt, K (cl0 (by omega)) (by omega) h.nw, K (cl0 (by omega)) (by omega) h.mg, K (cl0 (by omega)) (by omega) h.mw, K (cl0 (by omega)) (by omega) h.dr, hw,
    fun k hk => ⟨K (clV k hk (by omega) (by omega)) (by omega) (h.ver hk), K (clV k hk (by omega) (by omega)) (by omega) (h.ts hk), K (clV k hk (by omega) (by omega)) (by omega) (h.tw hk), K (clV k hk (by omega) (by omega)) (by omega) (h.an hk)⟩,
    fun b hb => K (clB hb) (by omega) (h.ba hb)⟩
theorem CR.merged (h : CR D g b0 A σ dw H) {m : Nat → Int64} (hw : HA D H1 (A 6) (eL (g 2) 64 m)) (hC : Chg H H1 (A 6)) : CR D g b0 A (gM σ m) dw H1 := by
  have K : ∀ {c : Nat}, cLive σ c → c ≠ 6 → ∀ {e : va_E}, HA D H (A c) e → HA D H1 (A c) e := fun {_} hc hn {_} he => h.kept (cl0 (by omega)) hC hc hn he
  exact ⟨h.1, h.2.1, h.2.2.1, K (cl0 (by omega)) (by omega) h.o, K (cl0 (by omega)) (by omega) h.vr, K (cl0 (by omega)) (by omega) h.br, K (cl0 (by omega)) (by omega) h.nt, K (cl0 (by omega)) (by omega) h.nw, K (cl0 (by omega)) (by omega) h.mg, hw, K (cl0 (by omega)) (by omega) h.dr, K (cl0 (by omega)) (by omega) h.drw,
    fun k hk => ⟨K (clV k hk (by omega) (by omega)) (by omega) (h.ver hk), K (clV k hk (by omega) (by omega)) (by omega) (h.ts hk), K (clV k hk (by omega) (by omega)) (by omega) (h.tw hk), K (clV k hk (by omega) (by omega)) (by omega) (h.an hk)⟩,
    fun b hb => K (clB hb) (by omega) (h.ba hb)⟩
theorem CR.head (h : CR D g b0 A σ dw H) {b v : Nat} (hb : b < sB σ) (hv : v < sV σ) (hw : HA D H1 (A (2000 + b)) (eO 0 [.ref (A (16 + 4 * v))])) (hC : Chg H H1 (A (2000 + b))) : CR D g b0 A (gHead σ b v) dw H1 := by
  have hV := h.1.2.1
  have K : ∀ {c : Nat}, cLive σ c → c ≠ 2000 + b → ∀ {e : va_E}, HA D H (A c) e → HA D H1 (A c) e := fun {_} hc hn {_} he => h.kept (clB hb) hC hc hn he
  exact ⟨h.1.head hv, h.2.1, h.2.2.1, K (cl0 (by omega)) (by omega) h.o, K (cl0 (by omega)) (by omega) h.vr, K (cl0 (by omega)) (by omega) h.br, K (cl0 (by omega)) (by omega) h.nt, K (cl0 (by omega)) (by omega) h.nw, K (cl0 (by omega)) (by omega) h.mg, K (cl0 (by omega)) (by omega) h.mw, K (cl0 (by omega)) (by omega) h.dr, K (cl0 (by omega)) (by omega) h.drw,
    fun k hk => ⟨K (clV k hk (by omega) (by omega)) (by have : k < sV σ := hk; omega) (h.ver hk), K (clV k hk (by omega) (by omega)) (by have : k < sV σ := hk; omega) (h.ts hk), K (clV k hk (by omega) (by omega)) (by have : k < sV σ := hk; omega) (h.tw hk), K (clV k hk (by omega) (by omega)) (by have : k < sV σ := hk; omega) (h.an hk)⟩,
    fun b' hb' => by
      show HA D H1 (A (2000 + b')) (eO 0 [.ref (A (16 + 4 * va_up (sH σ) b v b'))])
      by_cases e : b' = b
      · subst e; rw [up_eq]; exact hw
      · rw [up_ne _ _ e]; exact K (clB hb') (by omega) (h.ba hb')⟩
/-- the frame that the rest of the world sees -/
def CFr (H : Heap) (A : Nat → Nat) (σ : SG) (H1 : Heap) (A1 : Nat → Nat) (σ1 : SG) : Prop := H.size ≤ H1.size ∧ (∀ q, q < H.size → (∀ c, cLive σ c → q ≠ A c) → H1[q]? = H[q]? ∧ ∀ c, cLive σ1 c → q ≠ A1 c) ∧ A1 0 = A 0
theorem CFr.rf {H : Heap} {A : Nat → Nat} {σ : SG} : CFr H A σ H A σ := ⟨Nat.le_refl _, fun _ _ h => ⟨rfl, h⟩, rfl⟩
theorem CFr.tr {H H1 H2 : Heap} {A A1 A2 : Nat → Nat} {σ σ1 σ2 : SG} (h : CFr H A σ H1 A1 σ1) (h2 : CFr H1 A1 σ1 H2 A2 σ2) : CFr H A σ H2 A2 σ2 := ⟨Nat.le_trans h.1 h2.1, fun q hq ho => by
  obtain ⟨a1, a2⟩ := h.2.1 q hq ho
  obtain ⟨b1, b2⟩ := h2.2.1 q (Nat.lt_of_lt_of_le hq h.1) a2
  exact ⟨b1.trans a1, b2⟩, h2.2.2.trans h.2.2⟩
theorem CFr.chg {H H1 : Heap} {A : Nat → Nat} {σ σ1 : SG} {c0 : Nat} (h0 : cLive σ c0) (hC : Chg H H1 (A c0)) (hl : ∀ c, cLive σ1 c → cLive σ c) : CFr H A σ H1 A σ1 := ⟨hC.1, fun q hq ho => ⟨hC.2 q hq (ho c0 h0), fun c hc => ho c (hl c hc)⟩, rfl⟩
/-- addresses with a version's four cells more -/
def AV (A : Nat → Nat) (n q0 q1 q2 q3 : Nat) : Nat → Nat := fun c => if c = 16 + 4 * n then q0 else if c = 17 + 4 * n then q1 else if c = 18 + 4 * n then q2 else if c = 19 + 4 * n then q3 else A c
theorem AV0 (A : Nat → Nat) (n q0 q1 q2 q3 : Nat) : AV A n q0 q1 q2 q3 (16 + 4 * n) = q0 := if_pos rfl
theorem AV1 (A : Nat → Nat) (n q0 q1 q2 q3 : Nat) : AV A n q0 q1 q2 q3 (17 + 4 * n) = q1 := by unfold AV; rw [if_neg (by omega), if_pos rfl]
theorem AV2 (A : Nat → Nat) (n q0 q1 q2 q3 : Nat) : AV A n q0 q1 q2 q3 (18 + 4 * n) = q2 := by unfold AV; rw [if_neg (by omega), if_neg (by omega), if_pos rfl]
theorem AV3 (A : Nat → Nat) (n q0 q1 q2 q3 : Nat) : AV A n q0 q1 q2 q3 (19 + 4 * n) = q3 := by unfold AV; rw [if_neg (by omega), if_neg (by omega), if_neg (by omega), if_pos rfl]
theorem AVo (A : Nat → Nat) (n q0 q1 q2 q3 : Nat) {c : Nat} (h : c < 16 + 4 * n ∨ 20 + 4 * n ≤ c) : AV A n q0 q1 q2 q3 c = A c := by unfold AV; rw [if_neg (by omega), if_neg (by omega), if_neg (by omega), if_neg (by omega)]
theorem oA_AV (A : Nat → Nat) (n q0 q1 q2 q3 : Nat) {o : Option Nat} (ho : OLt o n) : oA (AV A n q0 q1 q2 q3) o = oA A o := by
  cases o with
  | none => rfl
  | some p =>
    have := ho p rfl
    show some (AV A n q0 q1 q2 q3 (16 + 4 * p)) = some (A (16 + 4 * p))
    rw [AVo A n q0 q1 q2 q3 (Or.inl (by omega))]
theorem CR.lt (h : CR D g b0 A σ dw H) {c : Nat} (hc : cLive σ c) : A c < H.size := by
  rcases hc with hc | ⟨h1, h2⟩ | ⟨h1, h2⟩
  · match c, hc with
    | 0, _ => exact h.o.lt
    | 1, _ => exact h.vr.lt
    | 2, _ => exact h.br.lt
    | 3, _ => exact h.nt.lt
    | 4, _ => exact h.nw.lt
    | 5, _ => exact h.mg.lt
    | 6, _ => exact h.mw.lt
    | 7, _ => exact h.dr.lt
    | 8, _ => exact h.drw.lt
    | n + 9, hc => omega
  · have hk : (c - 16) / 4 < sV σ := by omega
    have hm : c = 16 + 4 * ((c - 16) / 4) ∨ c = 17 + 4 * ((c - 16) / 4) ∨ c = 18 + 4 * ((c - 16) / 4) ∨ c = 19 + 4 * ((c - 16) / 4) := by omega
    rcases hm with e | e | e | e <;> rw [e]
    · exact (h.ver hk).lt
    · exact (h.ts hk).lt
    · exact (h.tw hk).lt
    · exact (h.an hk).lt
  · have := (h.ba (b := c - 2000) (by omega)).lt
    rw [show 2000 + (c - 2000) = c by omega] at this
    exact this
/-- a version more -/
theorem CR.addV (h : CR D g b0 A σ dw H) {f s : Option Nat} {w : Nat → Int64} {an : Nat → Bool} {q0 q1 q2 q3 : Nat} (hV : sV σ < 400) (hf : OLt f (sV σ)) (hs : OLt s (sV σ)) (ha : AnOK σ (sV σ) f s an) (hb : b0 ≤ H.size)
    (n0 : H.size ≤ q0) (n1 : q0 < q1) (n2 : q1 < q2) (n3 : q2 < q3) (hz : H.size ≤ H1.size) (hfr : ∀ q, q < H.size → q ≠ A 0 → q ≠ A 1 → H1[q]? = H[q]?)
    (c0 : HA D H1 q0 (eO 2 [.int (nI (sV σ)), va_rf (oA A f), va_rf (oA A s), .ref q1, .ref q3])) (c1 : HA D H1 q1 (eO 1 [.ref q2])) (c2 : HA D H1 q2 (eL (g 2) 64 w)) (c3 : HA D H1 q3 (eI (g 3) 400 (fun j => b2i (an j))))
    (d0 : HA D H1 (A 0) (eO 3 [.ref (A 1), .ref (A 2), .int (nI (sV σ + 1)), .int (nI (sB σ)), .ref (A 3), .ref (A 5), .ref (A 7)]))
    (d1 : HA D H1 (A 1) (eQ (g 5) 400 (va_up (fun k => if k < sV σ then some (A (16 + 4 * k)) else none) (sV σ) (some q0)))) :
    CR D g b0 (AV A (sV σ) q0 q1 q2 q3) (gGrow σ f s w an) dw H1 ∧ CFr H A σ H1 (AV A (sV σ) q0 q1 q2 q3) (gGrow σ f s w an) := by
  have hB := h.1.2.2.2.1
  have o : ∀ {c : Nat}, cLive σ c → AV A (sV σ) q0 q1 q2 q3 c = A c := fun {c} hc => AVo A (sV σ) q0 q1 q2 q3 (by rcases hc with z | ⟨z1, z2⟩ | ⟨z1, z2⟩ <;> omega)
  have K : ∀ {c : Nat}, cLive σ c → c ≠ 0 → c ≠ 1 → ∀ {e : va_E}, HA D H (A c) e → HA D H1 (AV A (sV σ) q0 q1 q2 q3 c) e := fun {c} hc g0 g1 {e} he => by
    rw [o hc]
    exact he.kept (hfr _ he.lt (h.ne hc (cl0 (by omega)) g0) (h.ne hc (cl0 (by omega)) g1))
  have live : ∀ c, cLive (gGrow σ f s w an) c → cLive σ c ∨ (16 + 4 * sV σ ≤ c ∧ c < 20 + 4 * sV σ) := by
    intro c hc
    rcases hc with z | ⟨z1, z2⟩ | ⟨z1, z2⟩
    · exact Or.inl (Or.inl z)
    · have z2 : c < 16 + 4 * (sV σ + 1) := z2
      rcases Nat.lt_or_ge c (16 + 4 * sV σ) with y | y
      · exact Or.inl (Or.inr (Or.inl ⟨z1, y⟩))
      · exact Or.inr ⟨y, by omega⟩
    · exact Or.inl (Or.inr (Or.inr ⟨z1, z2⟩))
  have new : ∀ c, 16 + 4 * sV σ ≤ c → c < 20 + 4 * sV σ → (c = 16 + 4 * sV σ ∧ AV A (sV σ) q0 q1 q2 q3 c = q0) ∨ (c = 17 + 4 * sV σ ∧ AV A (sV σ) q0 q1 q2 q3 c = q1) ∨ (c = 18 + 4 * sV σ ∧ AV A (sV σ) q0 q1 q2 q3 c = q2) ∨ (c = 19 + 4 * sV σ ∧ AV A (sV σ) q0 q1 q2 q3 c = q3) := by
    intro c y1 y2
    rcases (show c = 16 + 4 * sV σ ∨ c = 17 + 4 * sV σ ∨ c = 18 + 4 * sV σ ∨ c = 19 + 4 * sV σ by omega) with rfl | rfl | rfl | rfl
    · exact Or.inl ⟨rfl, AV0 ..⟩
    · exact Or.inr (Or.inl ⟨rfl, AV1 ..⟩)
    · exact Or.inr (Or.inr (Or.inl ⟨rfl, AV2 ..⟩))
    · exact Or.inr (Or.inr (Or.inr ⟨rfl, AV3 ..⟩))
  have newge : ∀ c, 16 + 4 * sV σ ≤ c → c < 20 + 4 * sV σ → H.size ≤ AV A (sV σ) q0 q1 q2 q3 c := by
    intro c y1 y2
    rcases new c y1 y2 with ⟨-, e⟩ | ⟨-, e⟩ | ⟨-, e⟩ | ⟨-, e⟩ <;> rw [e] <;> omega
  refine ⟨⟨h.1.grow hV hf hs ha, ?_, ?_, ?_, ?_, ?_, K (cl0 (by omega)) (by omega) (by omega) ?_, K (cl0 (by omega)) (by omega) (by omega) h.nw, K (cl0 (by omega)) (by omega) (by omega) ?_, K (cl0 (by omega)) (by omega) (by omega) h.mw, K (cl0 (by omega)) (by omega) (by omega) ?_, K (cl0 (by omega)) (by omega) (by omega) h.drw, ?_, ?_⟩, hz, ?_, AVo A (sV σ) q0 q1 q2 q3 (Or.inl (by omega))⟩
  · intro c c' hc hc' e
    rcases live c hc with y | ⟨y1, y2⟩ <;> rcases live c' hc' with y' | ⟨y1', y2'⟩
    · rw [o y, o y'] at e
      exact h.2.1 c c' y y' e
    · rw [o y] at e
      have := h.lt y
      have := newge c' y1' y2'
      omega
    · rw [o y'] at e
      have := h.lt y'
      have := newge c y1 y2
      omega
    · rcases new c y1 y2 with ⟨z, e1⟩ | ⟨z, e1⟩ | ⟨z, e1⟩ | ⟨z, e1⟩ <;> rcases new c' y1' y2' with ⟨z', e1'⟩ | ⟨z', e1'⟩ | ⟨z', e1'⟩ | ⟨z', e1'⟩ <;> rw [e1, e1'] at e <;> omega
  · intro c hc
    rcases live c hc with y | ⟨y1, y2⟩
    · rw [o y]; exact h.ge y
    · exact Nat.le_trans hb (newge c y1 y2)
  · rw [o (cl0 (by omega)), o (cl0 (by omega)), o (cl0 (by omega)), o (cl0 (by omega)), o (cl0 (by omega)), o (cl0 (by omega))]
    exact d0
  · rw [o (cl0 (by omega))]
    have e : (fun k => if k < sV (gGrow σ f s w an) then some (AV A (sV σ) q0 q1 q2 q3 (16 + 4 * k)) else none) = va_up (fun k => if k < sV σ then some (A (16 + 4 * k)) else none) (sV σ) (some q0) := by
      funext k
      show (if k < sV σ + 1 then _ else _) = _
      by_cases hk : k = sV σ
      · subst hk; rw [up_eq, if_pos (by omega), AV0]
      · rw [up_ne _ _ hk]
        by_cases hk2 : k < sV σ
        · rw [if_pos (by omega), if_pos hk2, AVo A (sV σ) q0 q1 q2 q3 (Or.inl (by omega))]
        · rw [if_neg (by omega), if_neg hk2]
    rw [e]
    exact d1
  · have e : (fun k => if k < sB (gGrow σ f s w an) then some (AV A (sV σ) q0 q1 q2 q3 (2000 + k)) else none) = (fun k => if k < sB σ then some (A (2000 + k)) else none) := by
      funext k
      show (if k < sB σ then _ else _) = _
      by_cases hk : k < sB σ
      · rw [if_pos hk, if_pos hk, AVo A (sV σ) q0 q1 q2 q3 (Or.inr (by omega))]
      · rw [if_neg hk, if_neg hk]
    rw [e]
    exact K (cl0 (by omega)) (by omega) (by omega) h.br
  · rw [o (cl0 (by omega))]; exact h.nt
  · rw [o (cl0 (by omega))]; exact h.mg
  · rw [o (cl0 (by omega))]; exact h.dr
  · intro k hk
    have hk : k < sV σ + 1 := hk
    show HA D H1 _ (eO 2 [.int (nI k), va_rf (oA _ (va_up (sF σ) (sV σ) f k)), va_rf (oA _ (va_up (sS σ) (sV σ) s k)), _, _]) ∧ _ ∧ HA D H1 _ (eL (g 2) 64 (va_up (sW σ) (sV σ) w k)) ∧ HA D H1 _ (eI (g 3) 400 (fun j => b2i (va_up (sA σ) (sV σ) an k j)))
    by_cases e : k = sV σ
    · subst e
      rw [up_eq, up_eq, up_eq, up_eq, AV0, AV1, AV2, AV3, oA_AV _ _ _ _ _ _ hf, oA_AV _ _ _ _ _ _ hs]
      exact ⟨c0, c1, c2, c3⟩
    · have hk2 : k < sV σ := by omega
      obtain ⟨p1, p2, -⟩ := h.1.2.2.2.2.2 k hk2
      rw [up_ne _ _ e, up_ne _ _ e, up_ne _ _ e, up_ne _ _ e, oA_AV _ _ _ _ _ _ (fun p hp => Nat.lt_trans (p1 p hp) hk2), oA_AV _ _ _ _ _ _ (fun p hp => Nat.lt_trans (p2 p hp) hk2)]
      refine ⟨K (clV k hk2 (by omega) (by omega)) (by omega) (by omega) ?_, K (clV k hk2 (by omega) (by omega)) (by omega) (by omega) ?_, K (clV k hk2 (by omega) (by omega)) (by omega) (by omega) (h.tw hk2), K (clV k hk2 (by omega) (by omega)) (by omega) (by omega) (h.an hk2)⟩
      · rw [o (clV k hk2 (by omega) (by omega)), o (clV k hk2 (by omega) (by omega))]; exact h.ver hk2
      · rw [o (clV k hk2 (by omega) (by omega))]; exact h.ts hk2
  · intro b hb
    have hh := h.1.2.2.2.2.1 b hb
    show HA D H1 _ (eO 0 [.ref (AV A (sV σ) q0 q1 q2 q3 (16 + 4 * sH σ b))])
    rw [o (c := 16 + 4 * sH σ b) (clV (sH σ b) hh (by omega) (by omega))]
    exact K (clB hb) (by omega) (by omega) (h.ba hb)
  · intro q hq ho
    refine ⟨hfr q hq (ho 0 (cl0 (by omega))) (ho 1 (cl0 (by omega))), fun c hc => ?_⟩
    rcases live c hc with y | ⟨y1, y2⟩
    · rw [o y]; exact ho c y
    · have := newge c y1 y2; omega
/-- a branch more -/
theorem CR.addB (h : CR D g b0 A σ dw H) {v q : Nat} (hB : sB σ < 40) (hv : v < sV σ) (hb : b0 ≤ H.size) (n0 : H.size ≤ q) (hz : H.size ≤ H1.size) (hfr : ∀ x, x < H.size → x ≠ A 0 → x ≠ A 2 → H1[x]? = H[x]?)
    (c0 : HA D H1 q (eO 0 [.ref (A (16 + 4 * v))]))
    (d0 : HA D H1 (A 0) (eO 3 [.ref (A 1), .ref (A 2), .int (nI (sV σ)), .int (nI (sB σ + 1)), .ref (A 3), .ref (A 5), .ref (A 7)]))
    (d1 : HA D H1 (A 2) (eQ (g 4) 40 (va_up (fun k => if k < sB σ then some (A (2000 + k)) else none) (sB σ) (some q)))) :
    CR D g b0 (va_up A (2000 + sB σ) q) (gBr σ v) dw H1 ∧ CFr H A σ H1 (va_up A (2000 + sB σ) q) (gBr σ v) := by
  have hV := h.1.2.1
  have o : ∀ {c : Nat}, cLive σ c → va_up A (2000 + sB σ) q c = A c := fun {c} hc => up_ne _ _ (by rcases hc with z | ⟨z1, z2⟩ | ⟨z1, z2⟩ <;> omega)
  have K : ∀ {c : Nat}, cLive σ c → c ≠ 0 → c ≠ 2 → ∀ {e : va_E}, HA D H (A c) e → HA D H1 (va_up A (2000 + sB σ) q c) e := fun {c} hc g0 g1 {e} he => by
    rw [o hc]
    exact he.kept (hfr _ he.lt (h.ne hc (cl0 (by omega)) g0) (h.ne hc (cl0 (by omega)) g1))
  have live : ∀ c, cLive (gBr σ v) c → cLive σ c ∨ c = 2000 + sB σ := by
    intro c hc
    rcases hc with z | ⟨z1, z2⟩ | ⟨z1, z2⟩
    · exact Or.inl (Or.inl z)
    · exact Or.inl (Or.inr (Or.inl ⟨z1, z2⟩))
    · have z2 : c < 2000 + (sB σ + 1) := z2
      rcases Nat.lt_or_ge c (2000 + sB σ) with y | y
      · exact Or.inl (Or.inr (Or.inr ⟨z1, y⟩))
      · exact Or.inr (by omega)
  refine ⟨⟨h.1.br hB hv, ?_, ?_, ?_, ?_, ?_, K (cl0 (by omega)) (by omega) (by omega) ?_, K (cl0 (by omega)) (by omega) (by omega) h.nw, K (cl0 (by omega)) (by omega) (by omega) ?_, K (cl0 (by omega)) (by omega) (by omega) h.mw, K (cl0 (by omega)) (by omega) (by omega) ?_, K (cl0 (by omega)) (by omega) (by omega) h.drw, ?_, ?_⟩, hz, ?_, up_ne _ _ (by omega)⟩
  · intro c c' hc hc' e
    rcases live c hc with y | y <;> rcases live c' hc' with y' | y'
    · rw [o y, o y'] at e
      exact h.2.1 c c' y y' e
    · rw [o y, y', up_eq] at e
      have := h.lt y
      omega
    · rw [o y', y, up_eq] at e
      have := h.lt y'
      omega
    · rw [y, y']
  · intro c hc
    rcases live c hc with y | y
    · rw [o y]; exact h.ge y
    · rw [y, up_eq]; omega
  · rw [o (cl0 (by omega)), o (cl0 (by omega)), o (cl0 (by omega)), o (cl0 (by omega)), o (cl0 (by omega)), o (cl0 (by omega))]
    exact d0
  · have e : (fun k => if k < sV (gBr σ v) then some (va_up A (2000 + sB σ) q (16 + 4 * k)) else none) = (fun k => if k < sV σ then some (A (16 + 4 * k)) else none) := by
      funext k
      show (if k < sV σ then _ else _) = _
      by_cases hk : k < sV σ
      · rw [if_pos hk, if_pos hk, o (clV k hk (by omega) (by omega))]
      · rw [if_neg hk, if_neg hk]
    rw [e]
    exact K (cl0 (by omega)) (by omega) (by omega) h.vr
  · rw [o (cl0 (by omega))]
    have e : (fun k => if k < sB (gBr σ v) then some (va_up A (2000 + sB σ) q (2000 + k)) else none) = va_up (fun k => if k < sB σ then some (A (2000 + k)) else none) (sB σ) (some q) := by
      funext k
      show (if k < sB σ + 1 then _ else _) = _
      by_cases hk : k = sB σ
      · subst hk; rw [up_eq, up_eq, if_pos (by omega)]
      · rw [up_ne _ _ hk, up_ne _ _ (by omega)]
        by_cases hk2 : k < sB σ
        · rw [if_pos (by omega), if_pos hk2]
        · rw [if_neg (by omega), if_neg hk2]
    rw [e]
    exact d1
  · rw [o (cl0 (by omega))]; exact h.nt
  · rw [o (cl0 (by omega))]; exact h.mg
  · rw [o (cl0 (by omega))]; exact h.dr
  · intro k hk
    have hk2 : k < sV σ := hk
    obtain ⟨p1, p2, -⟩ := h.1.2.2.2.2.2 k hk2
    have oo : ∀ {x : Option Nat}, OLt x k → oA (va_up A (2000 + sB σ) q) x = oA A x := fun {x} hx => by
      cases x with
      | none => rfl
      | some p => have := hx p rfl; show some (va_up A (2000 + sB σ) q (16 + 4 * p)) = some (A (16 + 4 * p)); rw [o (c := 16 + 4 * p) (clV p (by omega) (by omega) (by omega))]
    show HA D H1 _ (eO 2 [.int (nI k), va_rf (oA _ (sF σ k)), va_rf (oA _ (sS σ k)), _, _]) ∧ _ ∧ HA D H1 _ (eL (g 2) 64 (sW σ k)) ∧ HA D H1 _ (eI (g 3) 400 (fun j => b2i (sA σ k j)))
    rw [oo p1, oo p2]
    refine ⟨K (clV k hk2 (by omega) (by omega)) (by omega) (by omega) ?_, K (clV k hk2 (by omega) (by omega)) (by omega) (by omega) ?_, K (clV k hk2 (by omega) (by omega)) (by omega) (by omega) (h.tw hk2), K (clV k hk2 (by omega) (by omega)) (by omega) (by omega) (h.an hk2)⟩
    · rw [o (clV k hk2 (by omega) (by omega)), o (clV k hk2 (by omega) (by omega))]; exact h.ver hk2
    · rw [o (clV k hk2 (by omega) (by omega))]; exact h.ts hk2
  · intro b hb
    have hb : b < sB σ + 1 := hb
    show HA D H1 _ (eO 0 [.ref (va_up A (2000 + sB σ) q (16 + 4 * va_up (sH σ) (sB σ) v b))])
    by_cases e : b = sB σ
    · subst e
      rw [up_eq (sH σ), up_eq A, o (c := 16 + 4 * v) (clV v hv (by omega) (by omega))]
      exact c0
    · have hb2 : b < sB σ := by omega
      have hh := h.1.2.2.2.2.1 b hb2
      rw [up_ne (sH σ) _ e, o (c := 16 + 4 * sH σ b) (clV (sH σ b) hh (by omega) (by omega))]
      exact K (clB hb2) (by omega) (by omega) (h.ba hb2)
  · intro x hx ho
    refine ⟨hfr x hx (ho 0 (cl0 (by omega))) (ho 2 (cl0 (by omega))), fun c hc => ?_⟩
    rcases live c hc with y | y
    · rw [o y]; exact ho c y
    · rw [y, up_eq]; omega
end CRS
-- frames
def Fr (S : Nat → Prop) (H H1 : Heap) : Prop := H.size ≤ H1.size ∧ ∀ x, x < H.size → ¬ S x → H1[x]? = H[x]?
theorem Fr.rf {S : Nat → Prop} {H : Heap} : Fr S H H := ⟨Nat.le_refl _, fun _ _ _ => rfl⟩
theorem Fr.chg {S : Nat → Prop} {H H1 H2 : Heap} {a : Nat} (h : Fr S H H1) (h2 : Chg H1 H2 a) (ha : S a ∨ H.size ≤ a) : Fr S H H2 := ⟨Nat.le_trans h.1 h2.1, fun x hx hs => (h2.2 x (Nat.lt_of_lt_of_le hx h.1) (fun e => by subst e; rcases ha with z | z; exact hs z; omega)).trans (h.2 x hx hs)⟩
theorem Fr.add {S : Nat → Prop} {H H1 H2 : Heap} {a : Nat} (h : Fr S H H1) (h2 : Add H1 H2 a) : Fr S H H2 := ⟨Nat.le_trans h.1 (by rw [h2.2.1]; omega), fun x hx hs => (h2.2.2 x (Nat.lt_of_lt_of_le hx h.1)).trans (h.2 x hx hs)⟩
theorem Fr.to {S : Nat → Prop} {H H1 : Heap} {a : Nat} (h : Fr S H H1) (hs : ∀ x, S x → x = a) : Chg H H1 a := ⟨h.1, fun x hx hn => h.2 x hx (fun z => hn (hs x z))⟩
theorem HA.add {D : va_G} {H H1 : Heap} {a x : Nat} {e : va_E} (h : HA D H x e) (hA : Add H H1 a) : HA D H1 x e := h.kept (hA.2.2 x h.lt)
theorem upd_b2i (an : Nat → Bool) (i : Nat) (v : Bool) : upd (fun j => b2i (an j)) i (b2i v) = fun j => b2i (va_up an i v j) := by
  funext j
  unfold upd va_up
  split <;> rfl

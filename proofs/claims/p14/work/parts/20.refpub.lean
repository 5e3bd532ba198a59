/-! 20: the reference: the calls that change a state (the walks are laid by wip/gen/mod20.py) -/
def MK (σ : SG) (nC : Nat) (x : Nat → Nat → Int32) : Prop := nC = cnt (crowd (bt (sM σ))) 256 ∧ CK (bt (sM σ)) 256 x
theorem MK.le {σ : SG} {nC : Nat} {x : Nat → Nat → Int32} (h : MK σ nC x) : nC ≤ 64 := by rw [h.1]; exact cnt_crowd64 _
theorem MK.keep {σ σ' : SG} {nC : Nat} {x y : Nat → Nat → Int32} (h : MK σ nC x) (hs : sM σ' = sM σ) (hy : ∀ c, 8 ≤ c → y c = x c) : MK σ' nC y := ⟨by rw [hs]; exact h.1, by rw [hs]; exact h.2.congr (fun _ _ => rfl) hy⟩
theorem Zer.crowd {m : Nat → Int64} (h : Zer m) {k : Nat} (hk : k < 256) : crowd (bt m) k = false := by
  refine crowd_no2 rfl ?_
  have : cnt (fun o => bt m (16 * k + o)) 16 = 0 := cnt_0.mpr (fun o ho => Zer_bt h (by omega))
  show cnt (fun o => bt m (16 * k + o)) 16 < 2
  omega
theorem MK.zero {σ : SG} {m : Nat → Int64} (h : Zer m) (hm : sM σ = m) (x : Nat → Nat → Int32) : MK σ 0 x := by
  refine ⟨?_, fun k hk hc => ?_⟩
  · rw [hm]; exact (cnt_0.mpr (fun k hk => h.crowd hk)).symm
  · rw [hm, h.crowd hk] at hc; cases hc
def MPost (D : va_G) (g : Nat → ClassId) (b0 : Nat) (μ : Nat → Nat) (H : Heap) (σ : SG) (H1 : Heap) : Prop := ∃ (nC : Nat) (x : Nat → Nat → Int32), MC D g b0 μ (sV σ) (sB σ) nC x H1 ∧ MR σ x ∧ MK σ nC x ∧ MFr μ H H1
def MPubQ (D : va_G) (g : Nat → ClassId) (b0 : Nat) (μ : Nat → Nat) (H : Heap) (Sp : Int32 → SG → Prop) : Int32 → Heap → Prop := fun r H1 => ∀ r0 σ', Sp r0 σ' → r = r0 ∧ MPost D g b0 μ H σ' H1
/-- where the answer of a full object is left open -/
def MPubS (D : va_G) (g : Nat → ClassId) (b0 : Nat) (μ : Nat → Nat) (H : Heap) (σ : SG) (Sp : Int32 → SG → Prop) : Int32 → Heap → Prop := fun r H1 => ∀ r0 σ', Sp r0 σ' → (sV σ < 400 → r = r0) ∧ MPost D g b0 μ H σ' H1
theorem MPubS.of {D : va_G} {g : Nat → ClassId} {b0 : Nat} {μ : Nat → Nat} {H H1 : Heap} {σ : SG} {Sp : Int32 → SG → Prop} {r : Int32} (h : MPubQ D g b0 μ H Sp r H1) : MPubS D g b0 μ H σ Sp r H1 := fun r0 σ' hS => ⟨fun _ => (h r0 σ' hS).1, (h r0 σ' hS).2⟩
theorem brI {σ : SG} (h : WF σ) {b c : Nat} (hb : b < sB σ) (hc : c < sB σ) (e : nI b = nI c) : b = c := by
  have := h.2.2.2.1
  exact (nI_eq (by omega) (by omega)).mp e
theorem veI {σ : SG} (h : WF σ) {b c : Nat} (hb : b < sV σ) (hc : c < sV σ) (e : nI b = nI c) : b = c := by
  have := h.2.1
  exact (nI_eq (by omega) (by omega)).mp e
theorem neI {k : Nat} (hk : k < 2 ^ 31) {j : Nat} (hj : j < 2 ^ 31) (e : nI j = (-1) - nI k) : False := by
  have h := neg_lt hk
  rw [← e] at h
  exact nI_pos hj h
theorem neIj {k j : Nat} (hk : k < 2 ^ 31) (hj : j < 2 ^ 31) (e : (-1) - nI j = (-1) - nI k) : j = k := by
  have h : (-1) - ((-1) - nI j) = (-1) - ((-1) - nI k) := by rw [e]
  rw [neg_neg1, neg_neg1] at h
  exact (nI_eq hj hk).mp h
-- what each call does, read the other way round
theorem SpPut.n {σ σ' : SG} {bi ti r : Int32} {ad : Bool} (hN : BrN σ bi) (h : SpPut σ bi ti ad r σ') : r = -1 ∧ σ' = σ := by
  rcases h with ⟨-, h⟩ | ⟨b, hb, e, -⟩
  · exact h
  · exact absurd e (hN b hb)
theorem SpPut.y {σ σ' : SG} {ti r : Int32} {ad : Bool} {b : Nat} (hw : WF σ) (hb : b < sB σ) (h : SpPut σ (nI b) ti ad r σ') :
    (isTb ti = false ∧ r = -2 ∧ σ' = σ) ∨ ∃ t, t < 4096 ∧ ti = nI t ∧
  ((bt (sW σ (sH σ b)) t = ad ∧ r = -3 ∧ σ' = σ) ∨ (¬ bt (sW σ (sH σ b)) t = ad ∧
  ((sV σ = 400 ∧ r = -4 ∧ σ' = σ) ∨ (sV σ < 400 ∧ r = nI (sV σ) ∧ ∃ w an, σ' = gStep σ b none w an ∧ AnOK σ (sV σ) (some (sH σ b)) none an ∧ ∀ u, u < 4096 → bt w u = if u = t then ad else bt (sW σ (sH σ b)) u)))) := by
  rcases h with ⟨hN, -⟩ | ⟨b', hb', e, h⟩
  · exact absurd rfl (hN b hb)
  · have e1 := brI hw hb hb' e
    subst e1
    exact h
theorem SpPut.o {σ σ' : SG} {ti r : Int32} {ad : Bool} {b : Nat} (hw : WF σ) (hb : b < sB σ) (ht : isTb ti = false) (h : SpPut σ (nI b) ti ad r σ') : r = -2 ∧ σ' = σ := by
  rcases h.y hw hb with ⟨-, h⟩ | ⟨t, h1, h2, -⟩
  · exact h
  · rw [h2, isTb_nI h1] at ht; cases ht
theorem SpPut.t {σ σ' : SG} {r : Int32} {ad : Bool} {b t : Nat} (hw : WF σ) (hb : b < sB σ) (ht : t < 4096) (h : SpPut σ (nI b) (nI t) ad r σ') :
    ((bt (sW σ (sH σ b)) t = ad ∧ r = -3 ∧ σ' = σ) ∨ (¬ bt (sW σ (sH σ b)) t = ad ∧
  ((sV σ = 400 ∧ r = -4 ∧ σ' = σ) ∨ (sV σ < 400 ∧ r = nI (sV σ) ∧ ∃ w an, σ' = gStep σ b none w an ∧ AnOK σ (sV σ) (some (sH σ b)) none an ∧ ∀ u, u < 4096 → bt w u = if u = t then ad else bt (sW σ (sH σ b)) u)))) := by
  rcases h.y hw hb with ⟨h1, -⟩ | ⟨t', h1, h2, h3⟩
  · rw [isTb_nI ht] at h1; cases h1
  · have e := (nI_eq (by omega) (by omega)).mp h2
    subst e
    exact h3
theorem SpBlank.n {σ σ' : SG} {bi pi oi r : Int32} (hN : BrN σ bi) (h : SpBlank σ bi pi oi r σ') : r = -1 ∧ σ' = σ := by
  rcases h with ⟨-, h⟩ | ⟨b, hb, e, -⟩
  · exact h
  · exact absurd e (hN b hb)
theorem isBb_nI {t : Nat} (h : t < 8) : isBb (nI t) = true := isBb_in (nI_pos (by omega)) (nI_ge h (by omega))
theorem SpBlank.o {σ σ' : SG} {pi oi r : Int32} {b : Nat} (hw : WF σ) (hb : b < sB σ) (ht : isBb pi = false ∨ isBb oi = false) (h : SpBlank σ (nI b) pi oi r σ') : r = -2 ∧ σ' = σ := by
  rcases h with ⟨hN, -⟩ | ⟨b', hb', e, ⟨-, h⟩ | ⟨q, o, hq, ho, e1, e2, -⟩⟩
  · exact absurd rfl (hN b hb)
  · exact h
  · rw [e1, e2, isBb_nI hq, isBb_nI ho] at ht
    rcases ht with ht | ht <;> cases ht
theorem SpBlank.y {σ σ' : SG} {r : Int32} {b q o : Nat} (hw : WF σ) (hb : b < sB σ) (hq : q < 8) (ho : o < 8) (h : SpBlank σ (nI b) (nI q) (nI o) r σ') :
    (((q = o ∨ ¬ Ment (sW σ (sH σ b)) q ∨ Ment (sW σ (sH σ b)) o) ∧ r = -3 ∧ σ' = σ) ∨ (¬ q = o ∧ Ment (sW σ (sH σ b)) q ∧ ¬ Ment (sW σ (sH σ b)) o ∧
  ((sV σ = 400 ∧ r = -4 ∧ σ' = σ) ∨ (sV σ < 400 ∧ r = nI (sV σ) ∧ ∃ w an, σ' = gStep σ b none w an ∧ AnOK σ (sV σ) (some (sH σ b)) none an ∧ ∀ u, u < 4096 → (bt w u = true ↔ ∃ t, t < 4096 ∧ bt (sW σ (sH σ b)) t = true ∧ rnT t q o = u))))) := by
  rcases h with ⟨hN, -⟩ | ⟨b', hb', e, ⟨h1, -⟩ | ⟨q', o', hq', ho', e1, e2, h⟩⟩
  · exact absurd rfl (hN b hb)
  · rw [isBb_nI hq, isBb_nI ho] at h1
    rcases h1 with ht | ht <;> cases ht
  · have e0 := brI hw hb hb' e
    have e3 := (nI_eq (by omega) (by omega)).mp e1
    have e4 := (nI_eq (by omega) (by omega)).mp e2
    subst e0; subst e3; subst e4
    exact h
theorem SpMerge.n {σ σ' : SG} {ai bi r : Int32} (hN : BrN σ ai ∨ BrN σ bi) (h : SpMerge σ ai bi r σ') : r = -1 ∧ σ' = σ := by
  rcases h with ⟨-, h⟩ | ⟨a, b, ha, hb, e, e2, -⟩
  · exact h
  · rcases hN with hN | hN
    · exact absurd e (hN a ha)
    · exact absurd e2 (hN b hb)
theorem SpMerge.y {σ σ' : SG} {r : Int32} {a b : Nat} (hw : WF σ) (ha : a < sB σ) (hb : b < sB σ) (h : SpMerge σ (nI a) (nI b) r σ') :
    (sA σ (sH σ a) (sH σ b) = true ∧ r = 0 ∧ ∃ m, Zer m ∧ σ' = gM σ m) ∨
   (sA σ (sH σ a) (sH σ b) = false ∧ sA σ (sH σ b) (sH σ a) = true ∧ r = 0 ∧ ∃ m, Zer m ∧ σ' = gHead (gM σ m) a (sH σ b)) ∨
   (sA σ (sH σ a) (sH σ b) = false ∧ sA σ (sH σ b) (sH σ a) = false ∧ SpJoin σ a (sH σ b) r σ') := by
  rcases h with ⟨hN | hN, -⟩ | ⟨a', b', ha', hb', e1, e2, h⟩
  · exact absurd rfl (hN a ha)
  · exact absurd rfl (hN b hb)
  · have e0 := brI hw ha ha' e1
    have e3 := brI hw hb hb' e2
    subst e0; subst e3
    exact h
theorem gHead_id (σ : SG) (a : Nat) : gHead σ a (sH σ a) = σ := by
  have e : va_up (sH σ) a (sH σ a) = sH σ := by
    funext j
    by_cases z : j = a
    · subst z; rw [up_eq]
    · rw [up_ne _ _ z]
  unfold gHead
  rw [e]
theorem GCo.w {σ : SG} (h : WF σ) {u w : Nat} (hu : u < sV σ) (hw : w < sV σ) {o : Option Nat} (ho : GCo (sA σ u) (sA σ w) (sV σ) o) : o = some w ↔ sA σ u w = true := by
  have hV := h.2.1
  have hs := h.self hw
  constructor
  · intro e; subst e; exact ho.2.1
  · intro e
    cases o with
    | none => exact absurd ⟨e, hs⟩ (ho w hw)
    | some c =>
      have h1 := h.anc (w + 1) w (by omega) hw c (by have := ho.1; omega) ho.2.2.1
      rcases Nat.lt_or_ge c w with z | z
      · exact absurd ⟨e, hs⟩ (ho.2.2.2 w z hw)
      · rw [show c = w by omega]
theorem GCo.sw {a1 a2 : Nat → Bool} {n : Nat} {o : Option Nat} (h : GCo a1 a2 n o) : GCo a2 a1 n o := by
  cases o with
  | none => exact fun z hz q => h z hz ⟨q.2, q.1⟩
  | some c => exact ⟨h.1, h.2.2.1, h.2.1, fun z h1 h2 q => h.2.2.2 z h1 h2 ⟨q.2, q.1⟩⟩
theorem GCo.bits {σ : SG} (h : WF σ) {u w : Nat} (hu : u < sV σ) {o : Option Nat} (ho : GCo (sA σ u) (sA σ w) (sV σ) o) {fb : Nat → Int64} (hf : GCW σ u w fb) {t : Nat} (ht : t < 4096) : bt fb t = obit σ o t := by
  have hV := h.2.1
  rcases hf with ⟨h0, rfl⟩ | ⟨c, hc, rfl⟩
  · cases o with
    | none => exact Zer_bt (fun _ _ => rfl) ht
    | some c => have := ho.1; exact absurd ⟨ho.2.1, ho.2.2.1⟩ (h0 c (by omega))
  · have hcu := h.gc1 hu hc
    cases o with
    | none => exact absurd ⟨hc.2.1, hc.2.2.1⟩ (ho c (by omega))
    | some d =>
      rcases Nat.lt_trichotomy c d with z | z | z
      · have := ho.1; exact absurd ⟨ho.2.1, ho.2.2.1⟩ (hc.2.2.2 d z (by omega))
      · rw [z]; rfl
      · exact absurd ⟨hc.2.1, hc.2.2.1⟩ (ho.2.2.2 c z (by omega))
theorem mrg_bit {x y z m : Nat → Int64} (hm : ∀ j, j < 64 → m j = mrg (x j) (y j) (z j)) {t : Nat} (ht : t < 4096) : bt m t = (((bt x t || bt y t) && !(bt z t)) || (bt x t && bt y t)) := by
  unfold bt
  rw [hm _ (by omega)]
  unfold mrg
  rw [w_or, w_and, w_and, w_or, w_not _ (by omega)]
theorem lLay_bit {h x y m : Nat → Int64} (hm : ∀ j, j < 64 → m j = lLay (h j) (x j) (y j)) {t : Nat} (ht : t < 4096) : bt m t = ((bt y t && !(bt x t)) || (bt h t && !(bt x t && !(bt y t)))) := by
  unfold bt
  rw [hm _ (by omega)]
  unfold lLay
  rw [w_or, w_and, w_not _ (by omega), w_and, w_not _ (by omega), w_and, w_not _ (by omega), Bool.or_comm]
theorem bt_all {f h : Nat → Int64} : (∀ j, j < 64 → f j = h j) ↔ ∀ t, t < 4096 → bt f t = bt h t := by
  constructor
  · intro e t ht; exact bt_eq e ht
  · intro e j hj
    refine w_ext (fun i hi => ?_)
    have := e (64 * j + i) (by omega)
    rw [bt_get _ hi, bt_get _ hi] at this
    exact this
theorem can_bits (h x y : Nat → Int64) : (∀ j, j < 64 → (lRem (x j) (y j)) &&& ((h j) ^^^ (-1)) = 0) ↔ ∀ t, t < 4096 → bt x t = true → bt y t = false → bt h t = true := by
  have hb : ∀ t, t < 4096 → (bt (fun j => (lRem (x j) (y j)) &&& ((h j) ^^^ (-1))) t = ((bt x t && !(bt y t)) && !(bt h t))) := by
    intro t ht
    unfold bt
    show (((lRem (x (t / 64)) (y (t / 64))) &&& ((h (t / 64)) ^^^ (-1)))).toBitVec.getLsbD (t % 64) = _
    unfold lRem
    rw [w_and, w_and, w_not _ (by omega), w_not _ (by omega)]
  have e := bt_all (f := fun j => (lRem (x j) (y j)) &&& ((h j) ^^^ (-1))) (h := fun _ => 0)
  refine Iff.trans e ⟨fun q t ht h1 h2 => ?_, fun q t ht => ?_⟩
  · have := q t ht
    rw [hb t ht, Zer_bt (fun _ _ => rfl) ht, h1, h2] at this
    revert this
    cases bt h t <;> simp
  · rw [hb t ht, Zer_bt (fun _ _ => rfl) ht]
    have := q t ht
    revert this
    cases bt x t <;> cases bt y t <;> cases bt h t <;> simp
theorem befW_bit (σ : SG) (n : Nat) {t : Nat} (ht : t < 4096) : bt (befW σ n) t = obit σ (sF σ n) t := by
  cases h : sF σ n with
  | none => rw [befW_0 h]; exact Zer_bt (fun _ _ => rfl) ht
  | some p => rw [befW_1 h]; rfl
theorem SpApply.n {σ σ' : SG} {bi pi r : Int32} (hw : WF σ) (hN : BrN σ bi ∨ PaN σ pi) (h : SpApply σ bi pi r σ') : r = -1 ∧ σ' = σ := by
  rcases h with ⟨-, h⟩ | ⟨b, n, hb, hn, e, h⟩
  · exact h
  · rcases hN with hN | hN
    · exact absurd e (hN b hb)
    · rcases h with ⟨e2, -⟩ | ⟨e2, -⟩
      · exact absurd e2 (hN.1 n hn)
      · exact absurd e2 (hN.2 n hn)
theorem SpApply.y {σ σ' : SG} {r : Int32} {b n : Nat} (hw : WF σ) (hb : b < sB σ) (hn : n < sV σ) (h : SpApply σ (nI b) (nI n) r σ') : SpLay σ b (befW σ n) (sW σ n) r σ' := by
  have hV := hw.2.1
  rcases h with ⟨hN | hN, -⟩ | ⟨b', n', hb', hn', e, h⟩
  · exact absurd rfl (hN b hb)
  · exact absurd rfl (hN.1 n hn)
  · have e1 := brI hw hb hb' e
    subst e1
    rcases h with ⟨e2, h⟩ | ⟨e2, -⟩
    · have e3 := veI hw hn hn' e2
      subst e3
      exact h
    · exact (neI (by omega) (by omega) e2).elim
theorem SpApply.z {σ σ' : SG} {r : Int32} {b n : Nat} (hw : WF σ) (hb : b < sB σ) (hn : n < sV σ) (h : SpApply σ (nI b) ((-1) - nI n) r σ') : SpLay σ b (sW σ n) (befW σ n) r σ' := by
  have hV := hw.2.1
  rcases h with ⟨hN | hN, -⟩ | ⟨b', n', hb', hn', e, h⟩
  · exact absurd rfl (hN b hb)
  · exact absurd rfl (hN.2 n hn)
  · have e1 := brI hw hb hb' e
    subst e1
    rcases h with ⟨e2, -⟩ | ⟨e2, h⟩
    · exact (neI (by omega) (by omega) e2.symm).elim
    · have e3 := neIj (by omega) (by omega) e2
      subst e3
      exact h
theorem SpRevert.n {σ σ' : SG} {bi ni r : Int32} (hN : BrN σ bi ∨ VeN σ ni) (h : SpRevert σ bi ni r σ') : r = -1 ∧ σ' = σ := by
  rcases h with ⟨-, h⟩ | ⟨b, n, hb, hn, e, e2, h⟩
  · exact h
  · rcases hN with hN | hN
    · exact absurd e (hN b hb)
    · exact absurd e2 (hN n hn)
theorem SpRevert.y {σ σ' : SG} {r : Int32} {b n : Nat} (hw : WF σ) (hb : b < sB σ) (hn : n < sV σ) (h : SpRevert σ (nI b) (nI n) r σ') :
    ((sA σ (sH σ b) n = false ∨ ¬ sS σ n = none) ∧ r = -3 ∧ σ' = σ) ∨ (sA σ (sH σ b) n = true ∧ sS σ n = none ∧ SpLay σ b (sW σ n) (befW σ n) r σ') := by
  rcases h with ⟨hN | hN, -⟩ | ⟨b', n', hb', hn', e, e2, h⟩
  · exact absurd rfl (hN b hb)
  · exact absurd rfl (hN n hn)
  · have e1 := brI hw hb hb' e
    have e3 := veI hw hn hn' e2
    subst e1; subst e3
    exact h
theorem SpBranch.n {σ σ' : SG} {i r : Int32} (hN : BrN σ i) (h1 : ¬ i = -1) (h : SpBranch σ i r σ') : r = -1 ∧ σ' = σ := by
  rcases h with ⟨-, -, h⟩ | ⟨-, h | ⟨b, hb, e⟩, -⟩ | ⟨b, hb, e, -⟩ | ⟨e, -⟩ | ⟨e, -⟩
  · exact h
  · exact absurd h h1
  · exact absurd e (hN b hb)
  · exact absurd e (hN b hb)
  · exact absurd e h1
  · exact absurd e h1
theorem SpBranch.y {σ σ' : SG} {r : Int32} {b : Nat} (hw : WF σ) (hb : b < sB σ) (h : SpBranch σ (nI b) r σ') : (sB σ = 40 ∧ r = -4 ∧ σ' = σ) ∨ (sB σ < 40 ∧ r = nI (sB σ) ∧ σ' = gBr σ (sH σ b)) := by
  have hB := hw.2.2.2.1
  have h1 : ¬ nI b = -1 := nI_neg (by omega)
  rcases h with ⟨hN, -⟩ | ⟨z, -, h⟩ | ⟨b', hb', e, z, h⟩ | ⟨e, -⟩ | ⟨e, -⟩
  · exact absurd rfl (hN b hb)
  · exact Or.inl ⟨z, h⟩
  · have e1 := brI hw hb hb' e
    subst e1
    exact Or.inr ⟨z, h⟩
  · exact absurd e h1
  · exact absurd e h1
theorem SpBranch.m {σ σ' : SG} {r : Int32} (hw : WF σ) (h : SpBranch σ (-1) r σ') : ((sB σ = 40 ∨ sV σ = 400) ∧ r = -4 ∧ σ' = σ) ∨ (sB σ < 40 ∧ sV σ < 400 ∧ r = nI (sB σ) ∧ ∃ w an, σ' = gBr (gGrow σ none none w an) (sV σ) ∧ Zer w ∧ AnOK σ (sV σ) none none an) := by
  have hB := hw.2.2.2.1
  rcases h with ⟨-, z, -⟩ | ⟨z, -, h⟩ | ⟨b', hb', e, -⟩ | ⟨-, z, z2, h⟩ | ⟨-, z, z2, h⟩
  · exact absurd rfl z
  · exact Or.inl ⟨Or.inl z, h⟩
  · exact absurd e.symm (nI_neg (by omega))
  · exact Or.inl ⟨Or.inr z2, h⟩
  · exact Or.inr ⟨z, z2, h⟩
/-- one laying, seen from the reference's answer -/
theorem SpLay.ref {σ σ' : SG} (hw : WF σ) {b : Nat} {ff ft : Nat → Int64} {r : Int32} {F T : Nat → Bool} (hF : ∀ t, t < 4096 → bt ff t = F t) (hT : ∀ t, t < 4096 → bt ft t = T t) {ok : Bool}
    (hok : ok = true ↔ ((∀ t, t < 4096 → F t = true → T t = false → bt (sW σ (sH σ b)) t = true) ∧ ∃ t, t < 4096 ∧ ((T t = true ∧ F t = false ∧ bt (sW σ (sH σ b)) t = false) ∨ (F t = true ∧ T t = false ∧ bt (sW σ (sH σ b)) t = true)))) (h : SpLay σ b ff ft r σ') :
    (ok = false ∧ σ' = σ ∧ (sV σ < 400 → r = 0)) ∨ (ok = true ∧ sV σ = 400 ∧ r = -4 ∧ σ' = σ) ∨ (ok = true ∧ sV σ < 400 ∧ r = 1 ∧ ∃ w1 an, σ' = gStep σ b none w1 an ∧ AnOK σ (sV σ) (some (sH σ b)) none an ∧ ∀ t, t < 4096 → bt w1 t = ((T t && !(F t)) || (bt (sW σ (sH σ b)) t && !(F t && !(T t))))) := by
  have hV := hw.2.1
  have hcan : (∀ j, j < 64 → (lRem (ff j) (ft j)) &&& ((sW σ (sH σ b) j) ^^^ (-1)) = 0) ↔ (∀ t, t < 4096 → F t = true → T t = false → bt (sW σ (sH σ b)) t = true) := by
    refine (can_bits _ _ _).trans ⟨fun q t ht h1 h2 => q t ht (by rw [hF t ht]; exact h1) (by rw [hT t ht]; exact h2), fun q t ht h1 h2 => q t ht (by rw [← hF t ht]; exact h1) (by rw [← hT t ht]; exact h2)⟩
  have hlb : ∀ t, t < 4096 → bt (fun j => lLay (sW σ (sH σ b) j) (ff j) (ft j)) t = ((T t && !(F t)) || (bt (sW σ (sH σ b)) t && !(F t && !(T t)))) := by
    intro t ht
    rw [lLay_bit (fun _ _ => rfl) ht, hF t ht, hT t ht]
  have hsame : (∀ j, j < 64 → lLay (sW σ (sH σ b) j) (ff j) (ft j) = sW σ (sH σ b) j) ↔ ¬ ∃ t, t < 4096 ∧ ((T t = true ∧ F t = false ∧ bt (sW σ (sH σ b)) t = false) ∨ (F t = true ∧ T t = false ∧ bt (sW σ (sH σ b)) t = true)) := by
    refine (bt_all (f := fun j => lLay (sW σ (sH σ b) j) (ff j) (ft j)) (h := sW σ (sH σ b))).trans ⟨?_, ?_⟩
    · rintro q ⟨t, ht, h1⟩
      have := q t ht
      rw [hlb t ht] at this
      rcases h1 with ⟨a1, a2, a3⟩ | ⟨a1, a2, a3⟩ <;> rw [a1, a2, a3] at this <;> simp at this
    · intro q t ht
      rw [hlb t ht]
      have h1 : ¬ ((T t = true ∧ F t = false ∧ bt (sW σ (sH σ b)) t = false) ∨ (F t = true ∧ T t = false ∧ bt (sW σ (sH σ b)) t = true)) := fun z => q ⟨t, ht, z⟩
      revert h1
      cases T t <;> cases F t <;> cases bt (sW σ (sH σ b)) t <;> simp
  rcases h with ⟨h1, h2, h3⟩ | ⟨h1, ⟨h2, h3, h4⟩ | ⟨h2, h3, h4, h5⟩ | ⟨h2, h3, h4, w1, an, h5, h6, h7⟩⟩
  · refine Or.inl ⟨?_, h3, fun _ => h2⟩
    cases hk : ok with
    | false => rfl
    | true => exact absurd (hcan.mpr (hok.mp hk).1) h1
  · cases hk : ok with
    | false => exact Or.inl ⟨rfl, h4, fun z => by omega⟩
    | true => exact Or.inr (Or.inl ⟨rfl, h2, h3, h4⟩)
  · refine Or.inl ⟨?_, h5, fun _ => h4⟩
    cases hk : ok with
    | false => rfl
    | true => exact absurd (hok.mp hk).2 (hsame.mp h3)
  · refine Or.inr (Or.inr ⟨hok.mpr ⟨hcan.mp h1, Classical.byContradiction fun z => h3 (hsame.mpr z)⟩, h2, h4, w1, an, h5, h6, fun t ht => ?_⟩)
    rw [bt_eq h7 ht]
    exact hlb t ht
theorem c_X4_isBranch_y (l : Launch) (D : va_G) (g : Nat → ClassId) (b0 : Nat) (H : Heap) (μ : Nat → Nat) (nV nB nC : Nat) (x : Nat → Nat → Int32) (hM : MC D g b0 μ nV nB nC x H) (hV4 : nV ≤ 400) (hB4 : nB ≤ 40) (hC4 : nC ≤ 64) (k : Nat) (hk : k < nB) : Met l yX4_isBranch wsX4_isBranch ({ frames := 0, cells := 0, slots := 0, locals := 0 } : Room) (kPc D g [.ref (μ 0), .int (nI k)] H) (kX (.int (b2i true)) H) 0 0 kN := by
  have h := c_X4_isBranch l D g b0 H μ nV nB nC x hM hV4 hB4 hC4 (nI k)
  rw [inB_nI hk (by omega)] at h
  exact h
theorem c_X4_isBranch_n (l : Launch) (D : va_G) (g : Nat → ClassId) (b0 : Nat) (H : Heap) (μ : Nat → Nat) (nV nB nC : Nat) (x : Nat → Nat → Int32) (hM : MC D g b0 μ nV nB nC x H) (hV4 : nV ≤ 400) (hB4 : nB ≤ 40) (hC4 : nC ≤ 64) (i : Int32) (hN : ∀ k, k < nB → ¬ i = nI k) : Met l yX4_isBranch wsX4_isBranch ({ frames := 0, cells := 0, slots := 0, locals := 0 } : Room) (kPc D g [.ref (μ 0), .int i] H) (kX (.int (b2i false)) H) 0 0 kN := by
  have h := c_X4_isBranch l D g b0 H μ nV nB nC x hM hV4 hB4 hC4 i
  rw [inB_no (by omega) hN] at h
  exact h
theorem c_X4_isVersion_y (l : Launch) (D : va_G) (g : Nat → ClassId) (b0 : Nat) (H : Heap) (μ : Nat → Nat) (nV nB nC : Nat) (x : Nat → Nat → Int32) (hM : MC D g b0 μ nV nB nC x H) (hV4 : nV ≤ 400) (hB4 : nB ≤ 40) (hC4 : nC ≤ 64) (k : Nat) (hk : k < nV) : Met l yX4_isVersion wsX4_isVersion ({ frames := 0, cells := 0, slots := 0, locals := 0 } : Room) (kPc D g [.ref (μ 0), .int (nI k)] H) (kX (.int (b2i true)) H) 0 0 kN := by
  have h := c_X4_isVersion l D g b0 H μ nV nB nC x hM hV4 hB4 hC4 (nI k)
  rw [inB_nI hk (by omega)] at h
  exact h
theorem c_X4_isVersion_n (l : Launch) (D : va_G) (g : Nat → ClassId) (b0 : Nat) (H : Heap) (μ : Nat → Nat) (nV nB nC : Nat) (x : Nat → Nat → Int32) (hM : MC D g b0 μ nV nB nC x H) (hV4 : nV ≤ 400) (hB4 : nB ≤ 40) (hC4 : nC ≤ 64) (i : Int32) (hN : ∀ k, k < nV → ¬ i = nI k) : Met l yX4_isVersion wsX4_isVersion ({ frames := 0, cells := 0, slots := 0, locals := 0 } : Room) (kPc D g [.ref (μ 0), .int i] H) (kX (.int (b2i false)) H) 0 0 kN := by
  have h := c_X4_isVersion l D g b0 H μ nV nB nC x hM hV4 hB4 hC4 i
  rw [inB_no (by omega) hN] at h
  exact h
set_option maxHeartbeats 4000000 in
set_option maxRecDepth 100000 in
/-- put_n -/
theorem c_X4_put_n (l : Launch) (D : va_G) (g : Nat → ClassId) (b0 : Nat) (H : Heap) (μ : Nat → Nat) (σ : SG) (nC : Nat) (x : Nat → Nat → Int32) (hM : MC D g b0 μ (sV σ) (sB σ) nC x H) (hR : MR σ x) (hMK : MK σ nC x) (bi ti : Int32) (ad : Bool) (hN : BrN σ bi) : Met l yX4_put wsX4_put ({ frames := 2, cells := 0, slots := 0, locals := 44 } : Room) (kPc D g [.ref (μ 0), .int (bi), .int (ti), .int (b2i ad)] H) (kI (MPubQ D g b0 μ H (SpPut σ bi ti ad))) 0 0 (kF b0) := by
  refine Met.ofW (cc := cX4_put) (maxL := 4) (ret := (some .int)) (by decide) rfl ?_
  intro p e s m args below meth c s₁ B hml hv
  obtain ⟨rfl, hH, hK⟩ := hv
  have hx := B.exec
  have hb := B.bytes
  have hr := B.returns
  have hts := atoms_spec (ws := wsX4_put) B.pre
  have hown : s.vm.findClass RX4 = some m.cls := findClass_of_methodNamed B.named
  have hlocks := B.notSynchronized
  rw [hH]
  have hl := lv_entry ([.ref (μ 0), .int (bi), .int (ti), .int (b2i ad)]) (n := 4) (Nat.le_of_ble_eq_true rfl)
  rw [lg_entry_eq]
  generalize (lg_sl ([.ref (μ 0), .int (bi), .int (ti), .int (b2i ad)]) ++ List.replicate (4 - (lg_sl ([.ref (μ 0), .int (bi), .int (ti), .int (b2i ad)])).length) Slot.unset).toArray = ls at hl ⊢
  have hl : lv_has ls 4 [(0, .ref (μ 0)), (1, .int (bi)), (2, .int (ti)), (3, .int (b2i ad))] := hl
  have hWF := hR.1
  have hV4 : sV σ ≤ 400 := hWF.2.1
  have hB4 : sB σ ≤ 40 := hWF.2.2.2.1
  have hC4 : nC ≤ 64 := hMK.le
  refine lv_aload_n hx hb dX4_put_0 rfl (lv_at hl 0 rfl) ?_
  refine lv_iload_n hx hb dX4_put_1 rfl (lv_at hl 1 rfl) ?_
  refine k_callX (va_runV (As := [.int (bi)]) (rest := []) ⟨hx, hb, hml, hown, hts⟩ (c_X4_isBranch_n l D g b0 H μ (sV σ) (sB σ) nC x hM hV4 hB4 hC4 bi hN) (cwV 1 hts gX4_put_X4_isBranch rfl rfl rfl (by decide +kernel) ⟨Nat.le_of_ble_eq_true rfl, Nat.le_of_ble_eq_true rfl⟩) ⟨kPc_blind, k_recv hK hM.o rfl, fun U hU hW => kPc_at hK hU hW⟩ rfl rfl hl.1 rfl (lv_room (Nat.le_of_ble_eq_true rfl)) dX4_put_2 ⟨Nat.le_of_ble_eq_true rfl, Nat.le_of_ble_eq_true rfl⟩) ?_
  refine z_if_ne (tgt := 10) hx hb dX4_put_5 (by decide) (fun h => by cases h) (fun _ => ?_)
  refine lv_iconst (v := (-1)) hx hb dX4_put_8 (by decide +kernel) ?_
  exact r_iI hx hb hr LB.nil (Nat.le_refl _) (Nat.le_refl _) (fun r0 σ' hS => by
    obtain ⟨e1, e2⟩ := hS.n hN
    subst e2
    exact ⟨e1.symm, _, _, hM, hR, hMK, MFr.rf⟩) dX4_put_9 hlocks
set_option maxHeartbeats 4000000 in
set_option maxRecDepth 100000 in
/-- put_y -/
theorem c_X4_put_y (l : Launch) (D : va_G) (g : Nat → ClassId) (b0 : Nat) (H : Heap) (μ : Nat → Nat) (σ : SG) (nC : Nat) (x : Nat → Nat → Int32) (hM : MC D g b0 μ (sV σ) (sB σ) nC x H) (hR : MR σ x) (hMK : MK σ nC x) (b : Nat) (hb4 : b < sB σ) (ti : Int32) (ad : Bool) : Met l yX4_put wsX4_put ({ frames := 2, cells := 0, slots := 0, locals := 44 } : Room) (kPc D g [.ref (μ 0), .int (nI b), .int (ti), .int (b2i ad)] H) (kI (MPubQ D g b0 μ H (SpPut σ (nI b) ti ad))) 0 0 (kF b0) := by
  refine Met.ofW (cc := cX4_put) (maxL := 4) (ret := (some .int)) (by decide) rfl ?_
  intro p e s m args below meth c s₁ B hml hv
  obtain ⟨rfl, hH, hK⟩ := hv
  have hx := B.exec
  have hb := B.bytes
  have hr := B.returns
  have hts := atoms_spec (ws := wsX4_put) B.pre
  have hown : s.vm.findClass RX4 = some m.cls := findClass_of_methodNamed B.named
  have hlocks := B.notSynchronized
  rw [hH]
  have hl := lv_entry ([.ref (μ 0), .int (nI b), .int (ti), .int (b2i ad)]) (n := 4) (Nat.le_of_ble_eq_true rfl)
  rw [lg_entry_eq]
  generalize (lg_sl ([.ref (μ 0), .int (nI b), .int (ti), .int (b2i ad)]) ++ List.replicate (4 - (lg_sl ([.ref (μ 0), .int (nI b), .int (ti), .int (b2i ad)])).length) Slot.unset).toArray = ls at hl ⊢
  have hl : lv_has ls 4 [(0, .ref (μ 0)), (1, .int (nI b)), (2, .int (ti)), (3, .int (b2i ad))] := hl
  have hWF := hR.1
  have hV4 : sV σ ≤ 400 := hWF.2.1
  have hB4 : sB σ ≤ 40 := hWF.2.2.2.1
  have hC4 : nC ≤ 64 := hMK.le
  have hhd := hWF.2.2.2.2.1 b hb4
  refine lv_aload_n hx hb dX4_put_0 rfl (lv_at hl 0 rfl) ?_
  refine lv_iload_n hx hb dX4_put_1 rfl (lv_at hl 1 rfl) ?_
  refine k_callX (va_runV (As := [.int (nI b)]) (rest := []) ⟨hx, hb, hml, hown, hts⟩ (c_X4_isBranch_y l D g b0 H μ (sV σ) (sB σ) nC x hM hV4 hB4 hC4 b hb4) (cwV 1 hts gX4_put_X4_isBranch rfl rfl rfl (by decide +kernel) ⟨Nat.le_of_ble_eq_true rfl, Nat.le_of_ble_eq_true rfl⟩) ⟨kPc_blind, k_recv hK hM.o rfl, fun U hU hW => kPc_at hK hU hW⟩ rfl rfl hl.1 rfl (lv_room (Nat.le_of_ble_eq_true rfl)) dX4_put_2 ⟨Nat.le_of_ble_eq_true rfl, Nat.le_of_ble_eq_true rfl⟩) ?_
  refine z_if_ne (tgt := 10) hx hb dX4_put_5 (by decide) (fun _ => ?_) (fun h => by cases h)
  refine lv_iload_n hx hb dX4_put_10 rfl (lv_at hl 2 rfl) ?_
  refine k_callX (va_runS (As := [.int (ti)]) (rest := []) ⟨hx, hb, hml, hown, hts⟩ (c_X4_isTriple l D g H ti) (va_cwS 1 hts gX4_put_X4_isTriple rfl rfl rfl (by decide +kernel) ⟨Nat.le_of_ble_eq_true rfl, Nat.le_of_ble_eq_true rfl⟩) ⟨kPc_blind, fun U hU hW => kPc_at hK hU hW⟩ rfl rfl hl.1 rfl (lv_room (Nat.le_of_ble_eq_true rfl)) dX4_put_11 ⟨Nat.le_of_ble_eq_true rfl, Nat.le_of_ble_eq_true rfl⟩) ?_
  refine z_if_ne (tgt := 20) hx hb dX4_put_14 (by decide) (fun c_771 => ?_) (fun c_771 => ?_)
  · skip
    obtain ⟨t, ht, rfl⟩ := isTb_ex c_771
    refine lv_aload_n hx hb dX4_put_20 rfl (lv_at hl 0 rfl) ?_
    refine lv_aload_n hx hb dX4_put_21 rfl (lv_at hl 0 rfl) ?_
    refine k_get (ci := 4) (C := RX4) (T := TX4) (N := 13) (v := .ref (μ 4)) hx hb hts (by decide +kernel) hown hK hM.o rfl 4 (by decide) rfl (hts (.fieldLink RX4 21 RX4 "heads" "[I") (by decide +kernel)) rfl dX4_put_22 ?_
    refine lv_iload_n hx hb dX4_put_25 rfl (lv_at hl 1 rfl) ?_
    refine k_iald hx hb hK hM.a4 (b) rfl (by omega) (by omega) dX4_put_26 ?_
    rw [show x 4 (b) = nI (sH σ b) from (hR.2.2.2.2 b hb4)]
    refine lv_iload_n hx hb dX4_put_27 rfl (lv_at hl 2 rfl) ?_
    refine k_callX (va_runV (As := [.int (nI (sH σ b)), .int (nI t)]) (rest := []) ⟨hx, hb, hml, hown, hts⟩ (c_X4_has l D g b0 H μ (sV σ) (sB σ) (nC) x hM (by omega) (by omega) (by omega) (some (sH σ b)) (t) (by omega) (bt (sW σ (sH σ b)) t) (hR.has (o := some (sH σ b)) (fun p hp => by cases hp; exact hhd) (by omega))) (cwV 2 hts gX4_put_X4_has rfl rfl rfl (by decide +kernel) ⟨Nat.le_of_ble_eq_true rfl, Nat.le_of_ble_eq_true rfl⟩) ⟨kPc_blind, k_recv hK hM.o rfl, fun U hU hW => kPc_at hK hU hW⟩ rfl rfl hl.1 rfl (lv_room (Nat.le_of_ble_eq_true rfl)) dX4_put_28 ⟨Nat.le_of_ble_eq_true rfl, Nat.le_of_ble_eq_true rfl⟩) ?_
    refine lv_iload_n hx hb dX4_put_31 rfl (lv_at hl 3 rfl) ?_
    refine z_icmp_ne (tgt := 38) hx hb dX4_put_32 (by decide) (fun c_772 => ?_) (fun c_772 => ?_)
    · skip
      refine lv_aload_n hx hb dX4_put_38 rfl (lv_at hl 0 rfl) ?_
      refine k_get (ci := 4) (C := RX4) (T := TX4) (N := 13) (v := .int (nI (sV σ))) hx hb hts (by decide +kernel) hown hK hM.o rfl 3 (by decide) rfl (hts (.fieldLink RX4 43 RX4 "versions" "I") (by decide +kernel)) rfl dX4_put_39 ?_
      refine lv_sipush (v := nI 400) hx hb dX4_put_42 (by decide +kernel) ?_
      refine n_icmp_ne (tgt := 51) hx hb dX4_put_45 (by decide) (by omega) (by omega) (fun c_773 => ?_) (fun c_773 => ?_)
      · skip
        refine lv_aload_n hx hb dX4_put_51 rfl (lv_at hl 0 rfl) ?_
        refine lv_aload_n hx hb dX4_put_52 rfl (lv_at hl 0 rfl) ?_
        refine k_get (ci := 4) (C := RX4) (T := TX4) (N := 13) (v := .ref (μ 4)) hx hb hts (by decide +kernel) hown hK hM.o rfl 4 (by decide) rfl (hts (.fieldLink RX4 21 RX4 "heads" "[I") (by decide +kernel)) rfl dX4_put_53 ?_
        refine lv_iload_n hx hb dX4_put_56 rfl (lv_at hl 1 rfl) ?_
        refine k_iald hx hb hK hM.a4 (b) rfl (by omega) (by omega) dX4_put_57 ?_
        rw [show x 4 (b) = nI (sH σ b) from (hR.2.2.2.2 b hb4)]
        refine k_callU (va_runV (As := [.int (nI (sH σ b))]) (rest := []) ⟨hx, hb, hml, hown, hts⟩ (c_X4_take l D g b0 H μ (sV σ) (sB σ) nC x hM hV4 hB4 hC4 (some (sH σ b)) (fun u => bt (sW σ (sH σ b)) u) (fun u hu => hR.has (o := some (sH σ b)) (fun p hp => by cases hp; exact hhd) hu)) (cwV 1 hts gX4_put_X4_take rfl rfl rfl (by decide +kernel) ⟨Nat.le_of_ble_eq_true rfl, Nat.le_of_ble_eq_true rfl⟩) ⟨kPc_blind, k_recv hK hM.o rfl, fun U hU hW => kPc_at hK hU hW⟩ rfl rfl hl.1 rfl (lv_room (Nat.le_of_ble_eq_true rfl)) dX4_put_58 ⟨Nat.le_of_ble_eq_true rfl, Nat.le_of_ble_eq_true rfl⟩) LB.nil (fun H1 locs1 hLB1 hq1 => ?_)
        obtain ⟨h1, hM1, hF1, hh1⟩ := hq1
        refine lv_aload_n hx hb dX4_put_61 rfl (lv_at hl 0 rfl) ?_
        refine k_get (ci := 4) (C := RX4) (T := TX4) (N := 13) (v := .ref (μ 7)) hx hb hts (by decide +kernel) hown hK hM1.o rfl 8 (by decide) rfl (hts (.fieldLink RX4 31 RX4 "hand" "[B") (by decide +kernel)) rfl dX4_put_62 ?_
        refine lv_iload_n hx hb dX4_put_65 rfl (lv_at hl 2 rfl) ?_
        refine lv_iload_n hx hb dX4_put_66 rfl (lv_at hl 3 rfl) ?_
        refine z_if_eq (tgt := 74) hx hb dX4_put_67 (by decide) (fun c_774 => ?_) (fun c_774 => ?_)
        · skip
          refine lv_iconst (v := b2i false) hx hb dX4_put_74 (by decide +kernel) ?_
          refine lv_i2b (v := b2i false) hx hb dX4_put_75 (b2i_b _) ?_
          refine k_bast (y := b2i false) hx hb hK hM1.a7 hLB1 (hM1.ge (by omega)) (t) rfl (by omega) (by omega) (b2i_y _) dX4_put_76 (fun H_775 locs_776 hw_777 hC_778 hLB_779 => ?_)
          have hM_780 := hM1.set (c := 7) (by omega) (by omega) (f := (upd ((va_up x 7 h1) 7) (t) (b2i false))) hw_777 hC_778
          refine lv_aload_n hx hb dX4_put_77 rfl (lv_at hl 0 rfl) ?_
          refine lv_iload_n hx hb dX4_put_78 rfl (lv_at hl 1 rfl) ?_
          have hV : sV σ < 400 := by omega
          obtain ⟨xs, hxs⟩ : ∃ xs, xs = (va_up (va_up x 7 h1) 7 (upd ((va_up x 7 h1) 7) (t) (b2i false))) := ⟨_, rfl⟩
          have hMs : MC D g b0 μ (sV σ) (sB σ) nC xs H_775 := by rw [hxs]; exact hM_780
          have hRs : MR σ xs := by rw [hxs]; exact (hR.up (by omega) _).up (by omega) _
          have hxs8 : ∀ c, 8 ≤ c → xs c = x c := fun c hc => by rw [hxs]; rw [up_ne _ _ (by omega), up_ne _ _ (by omega)]
          have hxs7 : ∀ u, u < 4096 → xs 7 u = b2i ((fun u => if u = t then ad else bt (sW σ (sH σ b)) u) u) := by
            intro u hu
            rw [hxs]
            rw [up_eq]
            show _ = b2i (if u = t then ad else bt (sW σ (sH σ b)) u)
            by_cases e : u = t
            · rw [e, pk_us, if_pos rfl, c_774]
            · rw [pk_un e, if_neg e, up_eq]; exact hh1 u hu
          refine k_callI (va_runV (As := [.int (nI b)]) (rest := []) ⟨hx, hb, hml, hown, hts⟩ (c_X4_step l D g b0 H_775 μ σ nC xs hMs hRs hC4 b hb4 hV (fun u => if u = t then ad else bt (sW σ (sH σ b)) u) hxs7) (cwV 1 hts gX4_put_X4_step rfl rfl rfl (by decide +kernel) ⟨Nat.le_of_ble_eq_true rfl, Nat.le_of_ble_eq_true rfl⟩) ⟨kPc_blind, k_recv hK hMs.o rfl, fun U hU hW => kPc_at hK hU hW⟩ rfl rfl hl.1 rfl (lv_room (Nat.le_of_ble_eq_true rfl)) dX4_put_79 ⟨Nat.le_of_ble_eq_true rfl, Nat.le_of_ble_eq_true rfl⟩) hLB_779 (fun ra Hz locsz hLBz hqz => ?_)
          obtain ⟨hra, xz, hMz, hFz, hxz, hRz⟩ := hqz
          refine r_iI hx hb hr hLBz (Nat.le_refl _) (Nat.le_refl _) (fun r0 σ' hS => ?_) dX4_put_82 hlocks
          obtain ⟨hr0, w, an, hs, han, hw⟩ : r0 = nI (sV σ) ∧ ∃ w an, σ' = gStep σ b none w an ∧ AnOK σ (sV σ) (some (sH σ b)) none an ∧ ∀ u, u < 4096 → bt w u = if u = t then ad else bt (sW σ (sH σ b)) u := by
            rcases hS.t hWF hb4 ht with ⟨z1, -⟩ | ⟨-, ⟨z1, -⟩ | ⟨-, z⟩⟩
            · exact absurd z1 c_772
            · omega
            · exact z
          subst hs
          exact ⟨by rw [hra, hr0], nC, xz, hMz, hRz w an han (hw), hMK.keep rfl (fun c hc => (hxz c hc).trans (hxs8 c hc)), (hF1.tr (MFr.chg (by omega) hC_778)).tr hFz⟩
        · skip
          refine lv_iconst (v := b2i true) hx hb dX4_put_70 (by decide +kernel) ?_
          refine lv_goto (tgt := 75) hx hb dX4_put_71 (by decide) ?_
          refine lv_i2b (v := b2i true) hx hb dX4_put_75 (b2i_b _) ?_
          refine k_bast (y := b2i true) hx hb hK hM1.a7 hLB1 (hM1.ge (by omega)) (t) rfl (by omega) (by omega) (b2i_y _) dX4_put_76 (fun H_781 locs_782 hw_783 hC_784 hLB_785 => ?_)
          have hM_786 := hM1.set (c := 7) (by omega) (by omega) (f := (upd ((va_up x 7 h1) 7) (t) (b2i true))) hw_783 hC_784
          refine lv_aload_n hx hb dX4_put_77 rfl (lv_at hl 0 rfl) ?_
          refine lv_iload_n hx hb dX4_put_78 rfl (lv_at hl 1 rfl) ?_
          have hV : sV σ < 400 := by omega
          obtain ⟨xs, hxs⟩ : ∃ xs, xs = (va_up (va_up x 7 h1) 7 (upd ((va_up x 7 h1) 7) (t) (b2i true))) := ⟨_, rfl⟩
          have hMs : MC D g b0 μ (sV σ) (sB σ) nC xs H_781 := by rw [hxs]; exact hM_786
          have hRs : MR σ xs := by rw [hxs]; exact (hR.up (by omega) _).up (by omega) _
          have hxs8 : ∀ c, 8 ≤ c → xs c = x c := fun c hc => by rw [hxs]; rw [up_ne _ _ (by omega), up_ne _ _ (by omega)]
          have hxs7 : ∀ u, u < 4096 → xs 7 u = b2i ((fun u => if u = t then ad else bt (sW σ (sH σ b)) u) u) := by
            intro u hu
            rw [hxs]
            rw [up_eq]
            show _ = b2i (if u = t then ad else bt (sW σ (sH σ b)) u)
            by_cases e : u = t
            · rw [e, pk_us, if_pos rfl, c_774]
            · rw [pk_un e, if_neg e, up_eq]; exact hh1 u hu
          refine k_callI (va_runV (As := [.int (nI b)]) (rest := []) ⟨hx, hb, hml, hown, hts⟩ (c_X4_step l D g b0 H_781 μ σ nC xs hMs hRs hC4 b hb4 hV (fun u => if u = t then ad else bt (sW σ (sH σ b)) u) hxs7) (cwV 1 hts gX4_put_X4_step rfl rfl rfl (by decide +kernel) ⟨Nat.le_of_ble_eq_true rfl, Nat.le_of_ble_eq_true rfl⟩) ⟨kPc_blind, k_recv hK hMs.o rfl, fun U hU hW => kPc_at hK hU hW⟩ rfl rfl hl.1 rfl (lv_room (Nat.le_of_ble_eq_true rfl)) dX4_put_79 ⟨Nat.le_of_ble_eq_true rfl, Nat.le_of_ble_eq_true rfl⟩) hLB_785 (fun ra Hz locsz hLBz hqz => ?_)
          obtain ⟨hra, xz, hMz, hFz, hxz, hRz⟩ := hqz
          refine r_iI hx hb hr hLBz (Nat.le_refl _) (Nat.le_refl _) (fun r0 σ' hS => ?_) dX4_put_82 hlocks
          obtain ⟨hr0, w, an, hs, han, hw⟩ : r0 = nI (sV σ) ∧ ∃ w an, σ' = gStep σ b none w an ∧ AnOK σ (sV σ) (some (sH σ b)) none an ∧ ∀ u, u < 4096 → bt w u = if u = t then ad else bt (sW σ (sH σ b)) u := by
            rcases hS.t hWF hb4 ht with ⟨z1, -⟩ | ⟨-, ⟨z1, -⟩ | ⟨-, z⟩⟩
            · exact absurd z1 c_772
            · omega
            · exact z
          subst hs
          exact ⟨by rw [hra, hr0], nC, xz, hMz, hRz w an han (hw), hMK.keep rfl (fun c hc => (hxz c hc).trans (hxs8 c hc)), (hF1.tr (MFr.chg (by omega) hC_784)).tr hFz⟩
      · skip
        refine lv_bipush (v := (-4)) hx hb dX4_put_48 (by decide +kernel) ?_
        have hS1 : ∀ r0 σ', SpPut σ (nI b) (nI t) ad r0 σ' → r0 = -4 ∧ σ' = σ := by
          intro r0 σ' hS
          rcases hS.t hWF hb4 ht with ⟨z1, -⟩ | ⟨-, ⟨-, z⟩ | ⟨z1, -⟩⟩
          · exact absurd z1 c_772
          · exact z
          · omega
        exact r_iI hx hb hr LB.nil (Nat.le_refl _) (Nat.le_refl _) (fun r0 σ' hS => by
          obtain ⟨e1, e2⟩ := hS1 _ _ hS
          subst e2
          exact ⟨e1.symm, _, _, hM, hR, hMK, MFr.rf⟩) dX4_put_50 hlocks
    · skip
      refine lv_bipush (v := (-3)) hx hb dX4_put_35 (by decide +kernel) ?_
      have hS1 : ∀ r0 σ', SpPut σ (nI b) (nI t) ad r0 σ' → r0 = -3 ∧ σ' = σ := by
        intro r0 σ' hS
        rcases hS.t hWF hb4 ht with ⟨-, z⟩ | ⟨z1, -⟩
        · exact z
        · exact absurd c_772 z1
      exact r_iI hx hb hr LB.nil (Nat.le_refl _) (Nat.le_refl _) (fun r0 σ' hS => by
        obtain ⟨e1, e2⟩ := hS1 _ _ hS
        subst e2
        exact ⟨e1.symm, _, _, hM, hR, hMK, MFr.rf⟩) dX4_put_37 hlocks
  · skip
    refine lv_bipush (v := (-2)) hx hb dX4_put_17 (by decide +kernel) ?_
    exact r_iI hx hb hr LB.nil (Nat.le_refl _) (Nat.le_refl _) (fun r0 σ' hS => by
      obtain ⟨e1, e2⟩ := hS.o hWF hb4 c_771
      subst e2
      exact ⟨e1.symm, _, _, hM, hR, hMK, MFr.rf⟩) dX4_put_19 hlocks
set_option maxHeartbeats 4000000 in
set_option maxRecDepth 100000 in
/-- blank_n -/
theorem c_X4_blank_n (l : Launch) (D : va_G) (g : Nat → ClassId) (b0 : Nat) (H : Heap) (μ : Nat → Nat) (σ : SG) (nC : Nat) (x : Nat → Nat → Int32) (hM : MC D g b0 μ (sV σ) (sB σ) nC x H) (hR : MR σ x) (hMK : MK σ nC x) (bi pi oi : Int32) (hN : BrN σ bi) : Met l yX4_blank wsX4_blank ({ frames := 2, cells := 0, slots := 0, locals := 46 } : Room) (kPc D g [.ref (μ 0), .int (bi), .int (pi), .int (oi)] H) (kI (MPubQ D g b0 μ H (SpBlank σ bi pi oi))) 0 0 (kF b0) := by
  refine Met.ofW (cc := cX4_blank) (maxL := 5) (ret := (some .int)) (by decide) rfl ?_
  intro p e s m args below meth c s₁ B hml hv
  obtain ⟨rfl, hH, hK⟩ := hv
  have hx := B.exec
  have hb := B.bytes
  have hr := B.returns
  have hts := atoms_spec (ws := wsX4_blank) B.pre
  have hown : s.vm.findClass RX4 = some m.cls := findClass_of_methodNamed B.named
  have hlocks := B.notSynchronized
  rw [hH]
  have hl := lv_entry ([.ref (μ 0), .int (bi), .int (pi), .int (oi)]) (n := 5) (Nat.le_of_ble_eq_true rfl)
  rw [lg_entry_eq]
  generalize (lg_sl ([.ref (μ 0), .int (bi), .int (pi), .int (oi)]) ++ List.replicate (5 - (lg_sl ([.ref (μ 0), .int (bi), .int (pi), .int (oi)])).length) Slot.unset).toArray = ls at hl ⊢
  have hl : lv_has ls 5 [(0, .ref (μ 0)), (1, .int (bi)), (2, .int (pi)), (3, .int (oi))] := hl
  have hWF := hR.1
  have hV4 : sV σ ≤ 400 := hWF.2.1
  have hB4 : sB σ ≤ 40 := hWF.2.2.2.1
  have hC4 : nC ≤ 64 := hMK.le
  refine lv_aload_n hx hb dX4_blank_0 rfl (lv_at hl 0 rfl) ?_
  refine lv_iload_n hx hb dX4_blank_1 rfl (lv_at hl 1 rfl) ?_
  refine k_callX (va_runV (As := [.int (bi)]) (rest := []) ⟨hx, hb, hml, hown, hts⟩ (c_X4_isBranch_n l D g b0 H μ (sV σ) (sB σ) nC x hM hV4 hB4 hC4 bi hN) (cwV 1 hts gX4_blank_X4_isBranch rfl rfl rfl (by decide +kernel) ⟨Nat.le_of_ble_eq_true rfl, Nat.le_of_ble_eq_true rfl⟩) ⟨kPc_blind, k_recv hK hM.o rfl, fun U hU hW => kPc_at hK hU hW⟩ rfl rfl hl.1 rfl (lv_room (Nat.le_of_ble_eq_true rfl)) dX4_blank_2 ⟨Nat.le_of_ble_eq_true rfl, Nat.le_of_ble_eq_true rfl⟩) ?_
  refine z_if_ne (tgt := 10) hx hb dX4_blank_5 (by decide) (fun h => by cases h) (fun _ => ?_)
  refine lv_iconst (v := (-1)) hx hb dX4_blank_8 (by decide +kernel) ?_
  exact r_iI hx hb hr LB.nil (Nat.le_refl _) (Nat.le_refl _) (fun r0 σ' hS => by
    obtain ⟨e1, e2⟩ := hS.n hN
    subst e2
    exact ⟨e1.symm, _, _, hM, hR, hMK, MFr.rf⟩) dX4_blank_9 hlocks
set_option maxHeartbeats 4000000 in
set_option maxRecDepth 100000 in
/-- blank_y -/
theorem c_X4_blank_y (l : Launch) (D : va_G) (g : Nat → ClassId) (b0 : Nat) (H : Heap) (μ : Nat → Nat) (σ : SG) (nC : Nat) (x : Nat → Nat → Int32) (hM : MC D g b0 μ (sV σ) (sB σ) nC x H) (hR : MR σ x) (hMK : MK σ nC x) (b : Nat) (hb4 : b < sB σ) (pi oi : Int32) : Met l yX4_blank wsX4_blank ({ frames := 2, cells := 0, slots := 0, locals := 46 } : Room) (kPc D g [.ref (μ 0), .int (nI b), .int (pi), .int (oi)] H) (kI (MPubQ D g b0 μ H (SpBlank σ (nI b) pi oi))) 0 0 (kF b0) := by
  refine Met.ofW (cc := cX4_blank) (maxL := 5) (ret := (some .int)) (by decide) rfl ?_
  intro p e s m args below meth c s₁ B hml hv
  obtain ⟨rfl, hH, hK⟩ := hv
  have hx := B.exec
  have hb := B.bytes
  have hr := B.returns
  have hts := atoms_spec (ws := wsX4_blank) B.pre
  have hown : s.vm.findClass RX4 = some m.cls := findClass_of_methodNamed B.named
  have hlocks := B.notSynchronized
  rw [hH]
  have hl := lv_entry ([.ref (μ 0), .int (nI b), .int (pi), .int (oi)]) (n := 5) (Nat.le_of_ble_eq_true rfl)
  rw [lg_entry_eq]
  generalize (lg_sl ([.ref (μ 0), .int (nI b), .int (pi), .int (oi)]) ++ List.replicate (5 - (lg_sl ([.ref (μ 0), .int (nI b), .int (pi), .int (oi)])).length) Slot.unset).toArray = ls at hl ⊢
  have hl : lv_has ls 5 [(0, .ref (μ 0)), (1, .int (nI b)), (2, .int (pi)), (3, .int (oi))] := hl
  have hWF := hR.1
  have hV4 : sV σ ≤ 400 := hWF.2.1
  have hB4 : sB σ ≤ 40 := hWF.2.2.2.1
  have hC4 : nC ≤ 64 := hMK.le
  have hhd := hWF.2.2.2.2.1 b hb4
  refine lv_aload_n hx hb dX4_blank_0 rfl (lv_at hl 0 rfl) ?_
  refine lv_iload_n hx hb dX4_blank_1 rfl (lv_at hl 1 rfl) ?_
  refine k_callX (va_runV (As := [.int (nI b)]) (rest := []) ⟨hx, hb, hml, hown, hts⟩ (c_X4_isBranch_y l D g b0 H μ (sV σ) (sB σ) nC x hM hV4 hB4 hC4 b hb4) (cwV 1 hts gX4_blank_X4_isBranch rfl rfl rfl (by decide +kernel) ⟨Nat.le_of_ble_eq_true rfl, Nat.le_of_ble_eq_true rfl⟩) ⟨kPc_blind, k_recv hK hM.o rfl, fun U hU hW => kPc_at hK hU hW⟩ rfl rfl hl.1 rfl (lv_room (Nat.le_of_ble_eq_true rfl)) dX4_blank_2 ⟨Nat.le_of_ble_eq_true rfl, Nat.le_of_ble_eq_true rfl⟩) ?_
  refine z_if_ne (tgt := 10) hx hb dX4_blank_5 (by decide) (fun _ => ?_) (fun h => by cases h)
  refine lv_iload_n hx hb dX4_blank_10 rfl (lv_at hl 2 rfl) ?_
  refine k_callX (va_runS (As := [.int (pi)]) (rest := []) ⟨hx, hb, hml, hown, hts⟩ (c_X4_isBlank l D g H pi) (va_cwS 1 hts gX4_blank_X4_isBlank rfl rfl rfl (by decide +kernel) ⟨Nat.le_of_ble_eq_true rfl, Nat.le_of_ble_eq_true rfl⟩) ⟨kPc_blind, fun U hU hW => kPc_at hK hU hW⟩ rfl rfl hl.1 rfl (lv_room (Nat.le_of_ble_eq_true rfl)) dX4_blank_11 ⟨Nat.le_of_ble_eq_true rfl, Nat.le_of_ble_eq_true rfl⟩) ?_
  refine z_if_eq (tgt := 24) hx hb dX4_blank_14 (by decide) (fun c_787 => ?_) (fun c_787 => ?_)
  · skip
    refine lv_bipush (v := (-2)) hx hb dX4_blank_24 (by decide +kernel) ?_
    exact r_iI hx hb hr LB.nil (Nat.le_refl _) (Nat.le_refl _) (fun r0 σ' hS => by
      obtain ⟨e1, e2⟩ := hS.o hWF hb4 (Or.inl c_787)
      subst e2
      exact ⟨e1.symm, _, _, hM, hR, hMK, MFr.rf⟩) dX4_blank_26 hlocks
  · skip
    refine lv_iload_n hx hb dX4_blank_17 rfl (lv_at hl 3 rfl) ?_
    refine k_callX (va_runS (As := [.int (oi)]) (rest := []) ⟨hx, hb, hml, hown, hts⟩ (c_X4_isBlank l D g H oi) (va_cwS 1 hts gX4_blank_X4_isBlank rfl rfl rfl (by decide +kernel) ⟨Nat.le_of_ble_eq_true rfl, Nat.le_of_ble_eq_true rfl⟩) ⟨kPc_blind, fun U hU hW => kPc_at hK hU hW⟩ rfl rfl hl.1 rfl (lv_room (Nat.le_of_ble_eq_true rfl)) dX4_blank_18 ⟨Nat.le_of_ble_eq_true rfl, Nat.le_of_ble_eq_true rfl⟩) ?_
    refine z_if_ne (tgt := 27) hx hb dX4_blank_21 (by decide) (fun c_788 => ?_) (fun c_788 => ?_)
    · skip
      obtain ⟨q, hq, rfl⟩ := isBb_ex c_787
      obtain ⟨o, ho, rfl⟩ := isBb_ex c_788
      refine lv_iload_n hx hb dX4_blank_27 rfl (lv_at hl 2 rfl) ?_
      refine lv_iload_n hx hb dX4_blank_28 rfl (lv_at hl 3 rfl) ?_
      refine n_icmp_eq (tgt := 60) hx hb dX4_blank_29 (by decide) (by omega) (by omega) (fun c_789 => ?_) (fun c_789 => ?_)
      · skip
        refine lv_bipush (v := (-3)) hx hb dX4_blank_60 (by decide +kernel) ?_
        have hS1 : ∀ r0 σ', SpBlank σ (nI b) (nI q) (nI o) r0 σ' → r0 = -3 ∧ σ' = σ := by
          intro r0 σ' hS
          rcases hS.y hWF hb4 hq ho with ⟨z, z9⟩ | ⟨z1, z2, z3, ⟨z4, z9⟩ | ⟨z4, z9⟩⟩
          · exact z9
          · exact absurd c_789 z1
          · exact absurd c_789 z1
        exact r_iI hx hb hr LB.nil (Nat.le_refl _) (Nat.le_refl _) (fun r0 σ' hS => by
          obtain ⟨e1, e2⟩ := hS1 _ _ hS
          subst e2
          exact ⟨e1.symm, _, _, hM, hR, hMK, MFr.rf⟩) dX4_blank_62 hlocks
      · skip
        refine lv_aload_n hx hb dX4_blank_32 rfl (lv_at hl 0 rfl) ?_
        refine lv_aload_n hx hb dX4_blank_33 rfl (lv_at hl 0 rfl) ?_
        refine k_get (ci := 4) (C := RX4) (T := TX4) (N := 13) (v := .ref (μ 4)) hx hb hts (by decide +kernel) hown hK hM.o rfl 4 (by decide) rfl (hts (.fieldLink RX4 21 RX4 "heads" "[I") (by decide +kernel)) rfl dX4_blank_34 ?_
        refine lv_iload_n hx hb dX4_blank_37 rfl (lv_at hl 1 rfl) ?_
        refine k_iald hx hb hK hM.a4 (b) rfl (by omega) (by omega) dX4_blank_38 ?_
        rw [show x 4 (b) = nI (sH σ b) from (hR.2.2.2.2 b hb4)]
        refine lv_iload_n hx hb dX4_blank_39 rfl (lv_at hl 2 rfl) ?_
        obtain ⟨b1, hm1⟩ : ∃ bb : Bool, bb = true ↔ Ment (sW σ (sH σ b)) q := by
          by_cases z : Ment (sW σ (sH σ b)) q
          · exact ⟨true, ⟨fun _ => z, fun _ => rfl⟩⟩
          · exact ⟨false, ⟨fun q => (by cases q), fun q => absurd q z⟩⟩
        refine k_callX (va_runV (As := [.int (nI (sH σ b)), .int (nI q)]) (rest := []) ⟨hx, hb, hml, hown, hts⟩ (c_X4_stands l D g b0 H μ (sV σ) (sB σ) nC x hM hV4 hB4 hC4 (some (sH σ b)) (fun u => bt (sW σ (sH σ b)) u) (fun u hu => hR.has (o := some (sH σ b)) (fun p hp => by cases hp; exact hhd) hu) q (by omega) b1 hm1) (cwV 2 hts gX4_blank_X4_stands rfl rfl rfl (by decide +kernel) ⟨Nat.le_of_ble_eq_true rfl, Nat.le_of_ble_eq_true rfl⟩) ⟨kPc_blind, k_recv hK hM.o rfl, fun U hU hW => kPc_at hK hU hW⟩ rfl rfl hl.1 rfl (lv_room (Nat.le_of_ble_eq_true rfl)) dX4_blank_40 ⟨Nat.le_of_ble_eq_true rfl, Nat.le_of_ble_eq_true rfl⟩) ?_
        refine z_if_eq (tgt := 60) hx hb dX4_blank_43 (by decide) (fun c_790 => ?_) (fun c_790 => ?_)
        · skip
          refine lv_bipush (v := (-3)) hx hb dX4_blank_60 (by decide +kernel) ?_
          have hS1 : ∀ r0 σ', SpBlank σ (nI b) (nI q) (nI o) r0 σ' → r0 = -3 ∧ σ' = σ := by
            intro r0 σ' hS
            rcases hS.y hWF hb4 hq ho with ⟨z, z9⟩ | ⟨z1, z2, z3, ⟨z4, z9⟩ | ⟨z4, z9⟩⟩
            · exact z9
            · rw [hm1.mpr z2] at c_790; cases c_790
            · rw [hm1.mpr z2] at c_790; cases c_790
          exact r_iI hx hb hr LB.nil (Nat.le_refl _) (Nat.le_refl _) (fun r0 σ' hS => by
            obtain ⟨e1, e2⟩ := hS1 _ _ hS
            subst e2
            exact ⟨e1.symm, _, _, hM, hR, hMK, MFr.rf⟩) dX4_blank_62 hlocks
        · skip
          refine lv_aload_n hx hb dX4_blank_46 rfl (lv_at hl 0 rfl) ?_
          refine lv_aload_n hx hb dX4_blank_47 rfl (lv_at hl 0 rfl) ?_
          refine k_get (ci := 4) (C := RX4) (T := TX4) (N := 13) (v := .ref (μ 4)) hx hb hts (by decide +kernel) hown hK hM.o rfl 4 (by decide) rfl (hts (.fieldLink RX4 21 RX4 "heads" "[I") (by decide +kernel)) rfl dX4_blank_48 ?_
          refine lv_iload_n hx hb dX4_blank_51 rfl (lv_at hl 1 rfl) ?_
          refine k_iald hx hb hK hM.a4 (b) rfl (by omega) (by omega) dX4_blank_52 ?_
          rw [show x 4 (b) = nI (sH σ b) from (hR.2.2.2.2 b hb4)]
          refine lv_iload_n hx hb dX4_blank_53 rfl (lv_at hl 3 rfl) ?_
          obtain ⟨b2, hm2⟩ : ∃ bb : Bool, bb = true ↔ Ment (sW σ (sH σ b)) o := by
            by_cases z : Ment (sW σ (sH σ b)) o
            · exact ⟨true, ⟨fun _ => z, fun _ => rfl⟩⟩
            · exact ⟨false, ⟨fun q => (by cases q), fun q => absurd q z⟩⟩
          refine k_callX (va_runV (As := [.int (nI (sH σ b)), .int (nI o)]) (rest := []) ⟨hx, hb, hml, hown, hts⟩ (c_X4_stands l D g b0 H μ (sV σ) (sB σ) nC x hM hV4 hB4 hC4 (some (sH σ b)) (fun u => bt (sW σ (sH σ b)) u) (fun u hu => hR.has (o := some (sH σ b)) (fun p hp => by cases hp; exact hhd) hu) o (by omega) b2 hm2) (cwV 2 hts gX4_blank_X4_stands rfl rfl rfl (by decide +kernel) ⟨Nat.le_of_ble_eq_true rfl, Nat.le_of_ble_eq_true rfl⟩) ⟨kPc_blind, k_recv hK hM.o rfl, fun U hU hW => kPc_at hK hU hW⟩ rfl rfl hl.1 rfl (lv_room (Nat.le_of_ble_eq_true rfl)) dX4_blank_54 ⟨Nat.le_of_ble_eq_true rfl, Nat.le_of_ble_eq_true rfl⟩) ?_
          refine z_if_eq (tgt := 63) hx hb dX4_blank_57 (by decide) (fun c_791 => ?_) (fun c_791 => ?_)
          · skip
            have hno : ¬ (q = o ∨ ¬ Ment (sW σ (sH σ b)) q ∨ Ment (sW σ (sH σ b)) o) := by
              rintro (z | z | z)
              · exact c_789 z
              · exact z (hm1.mp c_790)
              · rw [hm2.mpr z] at c_791; cases c_791
            refine lv_aload_n hx hb dX4_blank_63 rfl (lv_at hl 0 rfl) ?_
            refine k_get (ci := 4) (C := RX4) (T := TX4) (N := 13) (v := .int (nI (sV σ))) hx hb hts (by decide +kernel) hown hK hM.o rfl 3 (by decide) rfl (hts (.fieldLink RX4 43 RX4 "versions" "I") (by decide +kernel)) rfl dX4_blank_64 ?_
            refine lv_sipush (v := nI 400) hx hb dX4_blank_67 (by decide +kernel) ?_
            refine n_icmp_ne (tgt := 76) hx hb dX4_blank_70 (by decide) (by omega) (by omega) (fun c_792 => ?_) (fun c_792 => ?_)
            · skip
              refine lv_aload_n hx hb dX4_blank_76 rfl (lv_at hl 0 rfl) ?_
              refine lv_iconst (v := (-1)) hx hb dX4_blank_77 (by decide +kernel) ?_
              refine k_callU (va_runV (As := [.int ((-1))]) (rest := []) ⟨hx, hb, hml, hown, hts⟩ (c_X4_take l D g b0 H μ (sV σ) (sB σ) nC x hM hV4 hB4 hC4 (none) (fun _ => false) (fun u hu => rfl)) (cwV 1 hts gX4_blank_X4_take rfl rfl rfl (by decide +kernel) ⟨Nat.le_of_ble_eq_true rfl, Nat.le_of_ble_eq_true rfl⟩) ⟨kPc_blind, k_recv hK hM.o rfl, fun U hU hW => kPc_at hK hU hW⟩ rfl rfl hl.1 rfl (lv_room (Nat.le_of_ble_eq_true rfl)) dX4_blank_78 ⟨Nat.le_of_ble_eq_true rfl, Nat.le_of_ble_eq_true rfl⟩) LB.nil (fun H1 locs1 hLB1 hq1 => ?_)
              obtain ⟨h1, hM1, hF1, hh1⟩ := hq1
              refine lv_iconst (v := nI 0) hx hb dX4_blank_81 (by decide +kernel) ?_
              refine lv_istore (lv' := [(4, .int (nI 0)), (0, .ref (μ 0)), (1, .int (nI b)), (2, .int (nI q)), (3, .int (nI o))]) hx hb dX4_blank_82 hl (by decide) rfl (fun ls hl => ?_)
              have loop : ∀ (N i : Nat) (H1 : Heap) (locs1 : List Loc) (h1 : Nat → Int32) (hb_ : Nat → Bool), 4096 < i + N → i ≤ 4096 → MC D g b0 μ (sV σ) (sB σ) nC (va_up x 7 h1) H1 → MFr μ H H1 → LB b0 locs1 → (∀ u, u < 4096 → h1 u = b2i (hb_ u)) → (∀ u, u < 4096 → (hb_ u = true ↔ ∃ t, t < i ∧ bt (sW σ (sH σ b)) t = true ∧ rnT t q o = u)) → ∀ ls, lv_has ls 5 [(4, .int (nI i)), (0, .ref (μ 0)), (1, .int (nI b)), (2, .int (nI q)), (3, .int (nI o))] → W p l e (headSpec wsX4_blank ({ frames := 2, cells := 0, slots := 0, locals := 46 } : Room)).room s m ([.ref (μ 0), .int (nI b), .int (nI q), .int (nI o)] : List Value).toArray below meth c H1 locs1 0 0 (MQ below (kI (MPubQ D g b0 μ H (SpBlank σ (nI b) (nI q) (nI o)))) ([.ref (μ 0), .int (nI b), .int (nI q), .int (nI o)] : List Value).toArray s 0 0 (kF b0)) (F0 m 84 ls []) := by
                intro N
                induction N with
                | zero => intro i H1 locs1 h1 hb_ h0 h1; omega
                | succ N ih =>
                  intro i H1 locs1 h1 hb_ hN hi hM1 hF hLB hv hbv ls hl
                  have hR1 := hR.up (c := 7) (by omega) h1
                  refine lv_iload hx hb dX4_blank_84 (lv_at hl 0 rfl) ?_
                  refine lv_sipush (v := nI 4096) hx hb dX4_blank_86 (by decide +kernel) ?_
                  refine n_icmp_ge (tgt := 160) hx hb dX4_blank_89 (by decide) (by omega) (by omega) (fun c_793 => ?_) (fun c_793 => ?_)
                  · skip
                    refine lv_aload_n hx hb dX4_blank_160 rfl (lv_at hl 1 rfl) ?_
                    refine lv_iload_n hx hb dX4_blank_161 rfl (lv_at hl 2 rfl) ?_
                    have hV : sV σ < 400 := by omega
                    obtain ⟨xs, hxs⟩ : ∃ xs, xs = (va_up x 7 h1) := ⟨_, rfl⟩
                    have hMs : MC D g b0 μ (sV σ) (sB σ) nC xs H1 := by rw [hxs]; exact hM1
                    have hRs : MR σ xs := by rw [hxs]; exact hR.up (by omega) _
                    have hxs8 : ∀ c, 8 ≤ c → xs c = x c := fun c hc => by rw [hxs]; exact up_ne _ _ (by omega)
                    have hxs7 : ∀ u, u < 4096 → xs 7 u = b2i (hb_ u) := by
                      intro u hu
                      rw [hxs]
                      rw [up_eq]; exact hv u hu
                    refine k_callI (va_runV (As := [.int (nI b)]) (rest := []) ⟨hx, hb, hml, hown, hts⟩ (c_X4_step l D g b0 H1 μ σ nC xs hMs hRs hC4 b hb4 hV hb_ hxs7) (cwV 1 hts gX4_blank_X4_step rfl rfl rfl (by decide +kernel) ⟨Nat.le_of_ble_eq_true rfl, Nat.le_of_ble_eq_true rfl⟩) ⟨kPc_blind, k_recv hK hMs.o rfl, fun U hU hW => kPc_at hK hU hW⟩ rfl rfl hl.1 rfl (lv_room (Nat.le_of_ble_eq_true rfl)) dX4_blank_162 ⟨Nat.le_of_ble_eq_true rfl, Nat.le_of_ble_eq_true rfl⟩) hLB (fun ra Hz locsz hLBz hqz => ?_)
                    obtain ⟨hra, xz, hMz, hFz, hxz, hRz⟩ := hqz
                    refine r_iI hx hb hr hLBz (Nat.le_refl _) (Nat.le_refl _) (fun r0 σ' hS => ?_) dX4_blank_165 hlocks
                    obtain ⟨hr0, w, an, hs, han, hw⟩ : r0 = nI (sV σ) ∧ ∃ w an, σ' = gStep σ b none w an ∧ AnOK σ (sV σ) (some (sH σ b)) none an ∧ ∀ u, u < 4096 → (bt w u = true ↔ ∃ t, t < 4096 ∧ bt (sW σ (sH σ b)) t = true ∧ rnT t q o = u) := by
                      rcases hS.y hWF hb4 hq ho with ⟨z, -⟩ | ⟨-, -, -, ⟨z1, -⟩ | ⟨-, z⟩⟩
                      · exact absurd z hno
                      · omega
                      · exact z
                    subst hs
                    exact ⟨by rw [hra, hr0], nC, xz, hMz, hRz w an han (fun u hu => by rw [Bool.eq_iff_iff, hw u hu, hbv u hu, show i = 4096 by omega]), hMK.keep rfl (fun c hc => (hxz c hc).trans (hxs8 c hc)), hF.tr hFz⟩
                  · skip
                    have hrl : rnT i q o < 4096 := rnT_lt (by omega) (by omega)
                    unfold rnT at hrl
                    refine lv_aload_n hx hb dX4_blank_92 rfl (lv_at hl 1 rfl) ?_
                    refine lv_aload_n hx hb dX4_blank_93 rfl (lv_at hl 1 rfl) ?_
                    refine k_get (ci := 4) (C := RX4) (T := TX4) (N := 13) (v := .ref (μ 4)) hx hb hts (by decide +kernel) hown hK hM1.o rfl 4 (by decide) rfl (hts (.fieldLink RX4 21 RX4 "heads" "[I") (by decide +kernel)) rfl dX4_blank_94 ?_
                    refine lv_iload_n hx hb dX4_blank_97 rfl (lv_at hl 2 rfl) ?_
                    refine k_iald hx hb hK hM1.a4 (b) rfl (by omega) (by omega) dX4_blank_98 ?_
                    rw [show (va_up x 7 h1) 4 (b) = nI (sH σ b) from (hR.2.2.2.2 b hb4)]
                    refine lv_iload hx hb dX4_blank_99 (lv_at hl 0 rfl) ?_
                    refine k_callX (va_runV (As := [.int (nI (sH σ b)), .int (nI i)]) (rest := []) ⟨hx, hb, hml, hown, hts⟩ (c_X4_has l D g b0 H1 μ (sV σ) (sB σ) (nC) (va_up x 7 h1) hM1 (by omega) (by omega) (by omega) (some (sH σ b)) (i) (by omega) (bt (sW σ (sH σ b)) i) (hR1.has (o := some (sH σ b)) (fun p hp => by cases hp; exact hhd) (by omega))) (cwV 2 hts gX4_blank_X4_has rfl rfl rfl (by decide +kernel) ⟨Nat.le_of_ble_eq_true rfl, Nat.le_of_ble_eq_true rfl⟩) ⟨kPc_blind, k_recv hK hM1.o rfl, fun U hU hW => kPc_at hK hU hW⟩ rfl rfl hl.1 rfl (lv_room (Nat.le_of_ble_eq_true rfl)) dX4_blank_101 ⟨Nat.le_of_ble_eq_true rfl, Nat.le_of_ble_eq_true rfl⟩) ?_
                    refine z_if_eq (tgt := 154) hx hb dX4_blank_104 (by decide) (fun c_794 => ?_) (fun c_794 => ?_)
                    · skip
                      refine lv_iinc (v := nI (i + 1)) (lv' := [(4, .int (nI (i + 1))), (0, .ref (μ 0)), (1, .int (nI b)), (2, .int (nI q)), (3, .int (nI o))]) hx hb dX4_blank_154 hl (k := 0) rfl (nI_add (i) 1) (by decide) rfl (fun ls hl => ?_)
                      refine lv_goto (tgt := 84) hx hb dX4_blank_157 (by decide) ?_
                      refine ih (i + 1) H1 locs1 h1 hb_ (by omega) (by omega) hM1 hF hLB hv (fun u hu => ?_) ls (lv_sub hl [0, 1, 2, 3, 4] rfl)
                      rw [hbv u hu]
                      constructor
                      · rintro ⟨t, t1, t2⟩; exact ⟨t, by omega, t2⟩
                      · rintro ⟨t, t1, t2, t3⟩
                        rcases Nat.lt_or_ge t i with z | z
                        · exact ⟨t, z, t2, t3⟩
                        · rw [show t = i by omega, c_794] at t2; cases t2
                    · skip
                      refine lv_aload_n hx hb dX4_blank_107 rfl (lv_at hl 1 rfl) ?_
                      refine k_get (ci := 4) (C := RX4) (T := TX4) (N := 13) (v := .ref (μ 7)) hx hb hts (by decide +kernel) hown hK hM1.o rfl 8 (by decide) rfl (hts (.fieldLink RX4 31 RX4 "hand" "[B") (by decide +kernel)) rfl dX4_blank_108 ?_
                      refine lv_sipush (v := nI 256) hx hb dX4_blank_111 (by decide +kernel) ?_
                      refine lv_iload hx hb dX4_blank_114 (lv_at hl 0 rfl) ?_
                      refine lv_bipush (v := nI 8) hx hb dX4_blank_116 (by decide +kernel) ?_
                      refine lv_ishr hx hb dX4_blank_118 ?_
                      refine lv_topi (nm_r (show (nI i) >>> ((nI 8) &&& 31) = nI (i / 256) from pk_shrN (by omega) _ 8 (by decide +kernel)) ?_)
                      refine lv_iload_n hx hb dX4_blank_119 rfl (lv_at hl 3 rfl) ?_
                      refine lv_iload_n hx hb dX4_blank_120 rfl (lv_at hl 4 rfl) ?_
                      refine k_callX (va_runS (As := [.int (nI (i / 256)), .int (nI q), .int (nI o)]) (rest := [.int (nI 256), .ref (μ 7)]) ⟨hx, hb, hml, hown, hts⟩ (c_X4_turned l D g H1 (i / 256) q o (by omega) (by omega) (by omega)) (va_cwS 3 hts gX4_blank_X4_turned rfl rfl rfl (by decide +kernel) ⟨Nat.le_of_ble_eq_true rfl, Nat.le_of_ble_eq_true rfl⟩) ⟨kPc_blind, fun U hU hW => kPc_at hK hU hW⟩ rfl rfl hl.1 rfl (lv_room (Nat.le_of_ble_eq_true rfl)) dX4_blank_121 ⟨Nat.le_of_ble_eq_true rfl, Nat.le_of_ble_eq_true rfl⟩) ?_
                      refine lv_imul hx hb dX4_blank_124 ?_
                      refine lv_topi (nm_r (show (nI 256) * (nI (rn (i / 256) q o)) = nI (256 * (rn (i / 256) q o)) from pk_mul _ _) ?_)
                      refine lv_bipush (v := nI 16) hx hb dX4_blank_125 (by decide +kernel) ?_
                      refine lv_iload hx hb dX4_blank_127 (lv_at hl 0 rfl) ?_
                      refine lv_iconst (v := nI 4) hx hb dX4_blank_129 (by decide +kernel) ?_
                      refine lv_ishr hx hb dX4_blank_130 ?_
                      refine lv_topi (nm_r (show (nI i) >>> ((nI 4) &&& 31) = nI (i / 16) from pk_shrN (by omega) _ 4 (by decide +kernel)) ?_)
                      refine lv_bipush (v := nI 15) hx hb dX4_blank_131 (by decide +kernel) ?_
                      refine lv_iand hx hb dX4_blank_133 ?_
                      refine lv_topi (nm_r (show (nI (i / 16)) &&& (nI 15) = nI ((i / 16) % 16) from pk_andN (by omega) 4 (by decide +kernel)) ?_)
                      refine lv_iload_n hx hb dX4_blank_134 rfl (lv_at hl 3 rfl) ?_
                      refine lv_iload_n hx hb dX4_blank_135 rfl (lv_at hl 4 rfl) ?_
                      refine k_callX (va_runS (As := [.int (nI ((i / 16) % 16)), .int (nI q), .int (nI o)]) (rest := [.int (nI 16), .int (nI (256 * (rn (i / 256) q o))), .ref (μ 7)]) ⟨hx, hb, hml, hown, hts⟩ (c_X4_turned l D g H1 ((i / 16) % 16) q o (by omega) (by omega) (by omega)) (va_cwS 3 hts gX4_blank_X4_turned rfl rfl rfl (by decide +kernel) ⟨Nat.le_of_ble_eq_true rfl, Nat.le_of_ble_eq_true rfl⟩) ⟨kPc_blind, fun U hU hW => kPc_at hK hU hW⟩ rfl rfl hl.1 rfl (lv_room (Nat.le_of_ble_eq_true rfl)) dX4_blank_136 ⟨Nat.le_of_ble_eq_true rfl, Nat.le_of_ble_eq_true rfl⟩) ?_
                      refine lv_imul hx hb dX4_blank_139 ?_
                      refine lv_topi (nm_r (show (nI 16) * (nI (rn ((i / 16) % 16) q o)) = nI (16 * (rn ((i / 16) % 16) q o)) from pk_mul _ _) ?_)
                      refine lv_iadd hx hb dX4_blank_140 ?_
                      refine lv_topi (nm_r (show (nI (256 * (rn (i / 256) q o))) + (nI (16 * (rn ((i / 16) % 16) q o))) = nI (256 * (rn (i / 256) q o) + 16 * (rn ((i / 16) % 16) q o)) from nI_add _ _) ?_)
                      refine lv_iload hx hb dX4_blank_141 (lv_at hl 0 rfl) ?_
                      refine lv_bipush (v := nI 15) hx hb dX4_blank_143 (by decide +kernel) ?_
                      refine lv_iand hx hb dX4_blank_145 ?_
                      refine lv_topi (nm_r (show (nI i) &&& (nI 15) = nI (i % 16) from pk_andN (by omega) 4 (by decide +kernel)) ?_)
                      refine lv_iload_n hx hb dX4_blank_146 rfl (lv_at hl 3 rfl) ?_
                      refine lv_iload_n hx hb dX4_blank_147 rfl (lv_at hl 4 rfl) ?_
                      refine k_callX (va_runS (As := [.int (nI (i % 16)), .int (nI q), .int (nI o)]) (rest := [.int (nI (256 * (rn (i / 256) q o) + 16 * (rn ((i / 16) % 16) q o))), .ref (μ 7)]) ⟨hx, hb, hml, hown, hts⟩ (c_X4_turned l D g H1 (i % 16) q o (by omega) (by omega) (by omega)) (va_cwS 3 hts gX4_blank_X4_turned rfl rfl rfl (by decide +kernel) ⟨Nat.le_of_ble_eq_true rfl, Nat.le_of_ble_eq_true rfl⟩) ⟨kPc_blind, fun U hU hW => kPc_at hK hU hW⟩ rfl rfl hl.1 rfl (lv_room (Nat.le_of_ble_eq_true rfl)) dX4_blank_148 ⟨Nat.le_of_ble_eq_true rfl, Nat.le_of_ble_eq_true rfl⟩) ?_
                      refine lv_iadd hx hb dX4_blank_151 ?_
                      refine lv_topi (nm_r (show (nI (256 * (rn (i / 256) q o) + 16 * (rn ((i / 16) % 16) q o))) + (nI (rn (i % 16) q o)) = nI (256 * (rn (i / 256) q o) + 16 * (rn ((i / 16) % 16) q o) + rn (i % 16) q o) from nI_add _ _) ?_)
                      refine lv_iconst (v := b2i true) hx hb dX4_blank_152 (by decide +kernel) ?_
                      refine k_bast (y := b2i true) hx hb hK hM1.a7 hLB (hM1.ge (by omega)) (256 * (rn (i / 256) q o) + 16 * (rn ((i / 16) % 16) q o) + rn (i % 16) q o) rfl (by omega) (by omega) (b2i_y _) dX4_blank_153 (fun H_795 locs_796 hw_797 hC_798 hLB_799 => ?_)
                      have hM_800 := hM1.set (c := 7) (by omega) (by omega) (f := (upd ((va_up x 7 h1) 7) (256 * (rn (i / 256) q o) + 16 * (rn ((i / 16) % 16) q o) + rn (i % 16) q o) (b2i true))) hw_797 hC_798
                      refine lv_iinc (v := nI (i + 1)) (lv' := [(4, .int (nI (i + 1))), (0, .ref (μ 0)), (1, .int (nI b)), (2, .int (nI q)), (3, .int (nI o))]) hx hb dX4_blank_154 hl (k := 0) rfl (nI_add (i) 1) (by decide) rfl (fun ls hl => ?_)
                      refine lv_goto (tgt := 84) hx hb dX4_blank_157 (by decide) ?_
                      have hM2 : MC D g b0 μ (sV σ) (sB σ) nC (va_up x 7 (upd h1 (rnT i q o) (b2i true))) H_795 := by
                        have q := hM_800
                        rw [up_eq, bx_uu] at q
                        exact q
                      refine ih (i + 1) H_795 locs_796 _ (va_up hb_ (rnT i q o) true) (by omega) (by omega) hM2 (hF.tr (MFr.chg (by omega) hC_798)) hLB_799 ?_ (fun u hu => ?_) ls (lv_sub hl [0, 1, 2, 3, 4] rfl)
                      · intro u hu
                        by_cases e : u = rnT i q o
                        · rw [e, pk_us, up_eq]
                        · rw [pk_un e, up_ne _ _ e]; exact hv u hu
                      · by_cases e : u = rnT i q o
                        · rw [e, up_eq]; exact ⟨fun _ => ⟨i, by omega, c_794, rfl⟩, fun _ => rfl⟩
                        · rw [up_ne _ _ e, hbv u hu]
                          constructor
                          · rintro ⟨t, t1, t2⟩; exact ⟨t, by omega, t2⟩
                          · rintro ⟨t, t1, t2, t3⟩
                            rcases Nat.lt_or_ge t i with z | z
                            · exact ⟨t, z, t2, t3⟩
                            · rw [show t = i by omega] at t3; exact absurd t3.symm e
              exact loop 4097 0 H1 locs1 h1 (fun _ => false) (by omega) (by omega) hM1 hF1 hLB1 hh1 (fun u hu => ⟨fun z => (by cases z), fun ⟨t, h, _⟩ => absurd h (Nat.not_lt_zero _)⟩) ls (lv_sub hl [0, 1, 2, 3, 4] rfl)
            · skip
              refine lv_bipush (v := (-4)) hx hb dX4_blank_73 (by decide +kernel) ?_
              have hS1 : ∀ r0 σ', SpBlank σ (nI b) (nI q) (nI o) r0 σ' → r0 = -4 ∧ σ' = σ := by
                intro r0 σ' hS
                rcases hS.y hWF hb4 hq ho with ⟨z, z9⟩ | ⟨z1, z2, z3, ⟨z4, z9⟩ | ⟨z4, z9⟩⟩
                · exact absurd z hno
                · exact z9
                · omega
              exact r_iI hx hb hr LB.nil (Nat.le_refl _) (Nat.le_refl _) (fun r0 σ' hS => by
                obtain ⟨e1, e2⟩ := hS1 _ _ hS
                subst e2
                exact ⟨e1.symm, _, _, hM, hR, hMK, MFr.rf⟩) dX4_blank_75 hlocks
          · skip
            refine lv_bipush (v := (-3)) hx hb dX4_blank_60 (by decide +kernel) ?_
            have hS1 : ∀ r0 σ', SpBlank σ (nI b) (nI q) (nI o) r0 σ' → r0 = -3 ∧ σ' = σ := by
              intro r0 σ' hS
              rcases hS.y hWF hb4 hq ho with ⟨z, z9⟩ | ⟨z1, z2, z3, ⟨z4, z9⟩ | ⟨z4, z9⟩⟩
              · exact z9
              · exact absurd (hm2.mp c_791) z3
              · exact absurd (hm2.mp c_791) z3
            exact r_iI hx hb hr LB.nil (Nat.le_refl _) (Nat.le_refl _) (fun r0 σ' hS => by
              obtain ⟨e1, e2⟩ := hS1 _ _ hS
              subst e2
              exact ⟨e1.symm, _, _, hM, hR, hMK, MFr.rf⟩) dX4_blank_62 hlocks
    · skip
      refine lv_bipush (v := (-2)) hx hb dX4_blank_24 (by decide +kernel) ?_
      exact r_iI hx hb hr LB.nil (Nat.le_refl _) (Nat.le_refl _) (fun r0 σ' hS => by
        obtain ⟨e1, e2⟩ := hS.o hWF hb4 (Or.inr c_788)
        subst e2
        exact ⟨e1.symm, _, _, hM, hR, hMK, MFr.rf⟩) dX4_blank_26 hlocks
theorem c_X4_put (l : Launch) (D : va_G) (g : Nat → ClassId) (b0 : Nat) (H : Heap) (μ : Nat → Nat) (σ : SG) (nC : Nat) (x : Nat → Nat → Int32) (hM : MC D g b0 μ (sV σ) (sB σ) nC x H) (hR : MR σ x) (hMK : MK σ nC x) (bi ti : Int32) (ad : Bool) : Met l yX4_put wsX4_put ({ frames := 2, cells := 0, slots := 0, locals := 44 } : Room) (kPc D g [.ref (μ 0), .int bi, .int ti, .int (b2i ad)] H) (kI (MPubQ D g b0 μ H (SpPut σ bi ti ad))) 0 0 (kF b0) := by
  rcases br_dec σ bi with h | ⟨b, hb4, rfl⟩
  · exact c_X4_put_n l D g b0 H μ σ nC x hM hR hMK bi ti ad h
  · exact c_X4_put_y l D g b0 H μ σ nC x hM hR hMK b hb4 ti ad
theorem c_X4_blank (l : Launch) (D : va_G) (g : Nat → ClassId) (b0 : Nat) (H : Heap) (μ : Nat → Nat) (σ : SG) (nC : Nat) (x : Nat → Nat → Int32) (hM : MC D g b0 μ (sV σ) (sB σ) nC x H) (hR : MR σ x) (hMK : MK σ nC x) (bi pi oi : Int32) : Met l yX4_blank wsX4_blank ({ frames := 2, cells := 0, slots := 0, locals := 46 } : Room) (kPc D g [.ref (μ 0), .int bi, .int pi, .int oi] H) (kI (MPubQ D g b0 μ H (SpBlank σ bi pi oi))) 0 0 (kF b0) := by
  rcases br_dec σ bi with h | ⟨b, hb4, rfl⟩
  · exact c_X4_blank_n l D g b0 H μ σ nC x hM hR hMK bi pi oi h
  · exact c_X4_blank_y l D g b0 H μ σ nC x hM hR hMK b hb4 pi oi

/-! 24: the calls that read: what each answers (the walks are laid by wip/gen/cls24.py) -/
def SpHead (σ : SG) (i r : Int32) (σ' : SG) : Prop := σ' = σ ∧ ((BrN σ i ∧ r = -1) ∨ ∃ b, b < sB σ ∧ i = nI b ∧ r = nI (sH σ b))
def SpBase (σ : SG) (i j r : Int32) (σ' : SG) : Prop := σ' = σ ∧ (((BrN σ i ∨ BrN σ j) ∧ r = -1) ∨ ∃ a b, a < sB σ ∧ b < sB σ ∧ i = nI a ∧ j = nI b ∧ ((GC0 σ (sH σ a) (sH σ b) ∧ r = -3) ∨ ∃ c, GC1 σ (sH σ a) (sH σ b) c ∧ r = nI c))
def Least (p : Nat → Bool) (k : Nat) (r : Int32) : Prop := ∃ o, o < 16 ∧ p (16 * k + o) = true ∧ (∀ z, z < o → p (16 * k + z) = false) ∧ r = nI (16 * k + o)
def Great (p : Nat → Bool) (k : Nat) (r : Int32) : Prop := ∃ o, o < 16 ∧ p (16 * k + o) = true ∧ (∀ z, o < z → z < 16 → p (16 * k + z) = false) ∧ r = nI (16 * k + o)
def SpConflict (σ : SG) (i w r : Int32) (σ' : SG) : Prop := σ' = σ ∧ ((∃ k, k < 256 ∧ crowd (bt (sM σ)) k = true ∧ nI (cnt (crowd (bt (sM σ))) k) = i ∧ ((w = 0 ∧ r = nI k) ∨ (w = 1 ∧ Least (bt (sM σ)) k r) ∨ (w = 2 ∧ Great (bt (sM σ)) k r) ∨ (¬ w = 0 ∧ ¬ w = 1 ∧ ¬ w = 2 ∧ r = -2))) ∨ ((∀ k, k < 256 → crowd (bt (sM σ)) k = true → ¬ nI (cnt (crowd (bt (sM σ))) k) = i) ∧ r = -2))
def SpInverse (σ : SG) (i r : Int32) (σ' : SG) : Prop := σ' = σ ∧ ((PaN σ i ∧ r = -1) ∨ (¬ PaN σ i ∧ r = (-1) - i))
def hisP (σ : SG) (t v : Nat) : Bool := decide (sS σ v = none) && !(bt (sW σ v) t == bt (befW σ v) t)
def SpHistory (σ : SG) (ti i r : Int32) (σ' : SG) : Prop := σ' = σ ∧ (((isTb ti = false ∨ i < 0) ∧ r = -2) ∨ ∃ t, t < 4096 ∧ ti = nI t ∧ ¬ i < 0 ∧ ((∃ k, k < sV σ ∧ hisP σ t k = true ∧ nI (cnt (hisP σ t) k) = i ∧ r = nI k) ∨ ((∀ k, k < sV σ → hisP σ t k = true → ¬ nI (cnt (hisP σ t) k) = i) ∧ r = -2)))
def SpReport (σ : SG) (i r : Int32) (σ' : SG) : Prop := σ' = σ ∧ ((BrN σ i ∧ r = -1) ∨ ∃ b, b < sB σ ∧ i = nI b ∧ r = b2i (decide (cnt (crowd (bt (sW σ (sH σ b)))) 256 = 0)))
def SpVersions (σ : SG) (r : Int32) (σ' : SG) : Prop := σ' = σ ∧ r = nI (sV σ)
def SpBranches (σ : SG) (r : Int32) (σ' : SG) : Prop := σ' = σ ∧ r = nI (sB σ)
/-- a call that changes nothing, whatever it answers -/
def SpSame (σ : SG) (_ : Int32) (σ' : SG) : Prop := σ' = σ
theorem sw3 {w : Int32} (h0 : ¬ w = 0) (h1 : ¬ w = 1) (h2 : ¬ w = 2) : w.toInt < 0 ∨ 2 < w.toInt := by
  rcases Int.lt_or_le w.toInt 0 with q | q
  · exact Or.inl q
  · rcases Int.lt_or_le 2 w.toInt with q2 | q2
    · exact Or.inr q2
    · exfalso
      rcases (show w.toInt = 0 ∨ w.toInt = 1 ∨ w.toInt = 2 by omega) with e | e | e
      · exact h0 (Int32.toInt_inj.mp (e.trans (by decide)))
      · exact h1 (Int32.toInt_inj.mp (e.trans (by decide)))
      · exact h2 (Int32.toInt_inj.mp (e.trans (by decide)))
theorem crowd_some {p : Nat → Bool} {k : Nat} (h : crowd p k = true) : ∃ z, z < 16 ∧ p (16 * k + z) = true := by
  unfold crowd at h
  rw [Bool.and_eq_true] at h
  have h2 := of_decide_eq_true h.2
  by_cases hz : ∃ z, z < 16 ∧ p (16 * k + z) = true
  · exact hz
  · have : cnt (fun o => p (16 * k + o)) 16 = 0 := cnt_0.mpr (fun j hj => ts_nt (fun q => hz ⟨j, hj, q⟩))
    omega
/-- as hisP, among the versions that there are -/
def hisP0 (σ : SG) (t v : Nat) : Bool := decide (v < sV σ) && hisP σ t v
theorem hisP0_in {σ : SG} {t v : Nat} (h : v < sV σ) : hisP0 σ t v = hisP σ t v := by unfold hisP0; rw [decide_eq_true h, Bool.true_and]
def NthR (p : Nat → Bool) (n : Nat) (i r : Int32) : Prop := (∃ k, k < n ∧ p k = true ∧ nI (cnt p k) = i ∧ r = nI k) ∨ ((∀ k, k < n → p k = true → ¬ nI (cnt p k) = i) ∧ r = -2)
def SpList (σ : SG) (bi i r : Int32) (σ' : SG) : Prop := σ' = σ ∧ ((BrN σ bi ∧ r = -1) ∨ ∃ b, b < sB σ ∧ bi = nI b ∧ NthR (bt (sW σ (sH σ b))) 4096 i r)
def dif (σ : SG) (m n t : Nat) : Bool := !(bt (sW σ m) t == bt (sW σ n) t)
def SpPatch (σ : SG) (fi ti i r : Int32) (σ' : SG) : Prop := σ' = σ ∧ (((VeN σ fi ∨ VeN σ ti) ∧ r = -1) ∨ ∃ m n, m < sV σ ∧ n < sV σ ∧ fi = nI m ∧ ti = nI n ∧ ((∃ k, k < 4096 ∧ dif σ m n k = true ∧ nI (cnt (dif σ m n) k) = i ∧ r = if bt (sW σ n) k then nI k else (-10) - nI k) ∨ ((∀ k, k < 4096 → dif σ m n k = true → ¬ nI (cnt (dif σ m n) k) = i) ∧ r = -2)))
theorem sub0 {a b : Int32} : a - b = 0 ↔ b = a := by
  constructor
  · intro h
    have e : a - b + b = 0 + b := by rw [h]
    rw [Int32.sub_add_cancel, Int32.zero_add] at e
    exact e.symm
  · intro h
    rw [h, Int32.sub_self]
theorem subS (a : Int32) (c : Nat) : (a - nI c) + (-1) = a - nI (c + 1) := by
  rw [← nI_add c 1, show nI 1 = (1 : Int32) from by decide +kernel, Int32.sub_eq_add_neg a, Int32.sub_eq_add_neg a, Int32.neg_add, Int32.sub_eq_add_neg, Int32.add_assoc]
theorem sub00 (a : Int32) : a = a - nI 0 := by rw [nI_0, Int32.sub_zero]
theorem neg_nth {i : Int32} (h : i < 0) {n : Nat} (hn : n < 2 ^ 31) : ¬ nI n = i := fun e => by
  rw [← e] at h
  exact nI_pos hn h
theorem cnt_surj (p : Nat → Bool) : ∀ n j, j < cnt p n → ∃ k, k < n ∧ p k = true ∧ cnt p k = j := by
  intro n
  induction n with
  | zero => intro j h; exact absurd h (Nat.not_lt_zero _)
  | succ n ih =>
    intro j h
    by_cases hj : j < cnt p n
    · obtain ⟨k, h1, h2⟩ := ih j hj
      exact ⟨k, by omega, h2⟩
    · cases hp : p n with
      | false => rw [cnt_f hp] at h; exact absurd h hj
      | true =>
        rw [cnt_t hp] at h
        exact ⟨n, by omega, hp, by omega⟩
set_option maxHeartbeats 4000000 in
set_option maxRecDepth 100000 in
/-- head_n -/
theorem c_X3_head_n (l : Launch) (D : va_G) (g : Nat → ClassId) (b0 : Nat) (H : Heap) (A : Nat → Nat) (σ : SG) (dw : Nat → Int64) (hC : CR D g b0 A σ dw H) (bi : Int32) (hN : BrN σ bi) : Met l yX3_head wsX3_head ({ frames := 1, cells := 0, slots := 0, locals := 21 } : Room) (kPc D g [.ref (A 0), .int (bi)] H) (kI (PubQ D g b0 H A σ (SpHead σ bi))) 0 0 (kF b0) := by
  refine Met.ofW (cc := cX3_head) (maxL := 3) (ret := (some .int)) (by decide) rfl ?_
  intro p e s m args below meth c s₁ B hml hv
  obtain ⟨rfl, hH, hK⟩ := hv
  have hx := B.exec
  have hb := B.bytes
  have hr := B.returns
  have hts := atoms_spec (ws := wsX3_head) B.pre
  have hown : s.vm.findClass RX3 = some m.cls := findClass_of_methodNamed B.named
  have hlocks := B.notSynchronized
  rw [hH]
  have hl := lv_entry ([.ref (A 0), .int (bi)]) (n := 3) (Nat.le_of_ble_eq_true rfl)
  rw [lg_entry_eq]
  generalize (lg_sl ([.ref (A 0), .int (bi)]) ++ List.replicate (3 - (lg_sl ([.ref (A 0), .int (bi)])).length) Slot.unset).toArray = ls at hl ⊢
  have hl : lv_has ls 3 [(0, .ref (A 0)), (1, .int (bi))] := hl
  have hVB := hC.wf
  have hV4 : sV σ ≤ 400 := hVB.2.1
  have hB4 : sB σ ≤ 40 := hVB.2.2.2.1
  refine lv_aload_n hx hb dX3_head_0 rfl (lv_at hl 0 rfl) ?_
  refine lv_iload_n hx hb dX3_head_1 rfl (lv_at hl 1 rfl) ?_
  refine k_callX (va_runV (As := [.int (bi)]) (rest := []) ⟨hx, hb, hml, hown, hts⟩ (c_X3_branchAt_n l D g b0 H A σ dw hC bi hN) (cwV 1 hts gX3_head_X3_branchAt rfl rfl rfl (by decide +kernel) ⟨Nat.le_of_ble_eq_true rfl, Nat.le_of_ble_eq_true rfl⟩) ⟨kPc_blind, k_recv hK hC.o rfl, fun U hU hW => kPc_at hK hU hW⟩ rfl rfl hl.1 rfl (lv_room (Nat.le_of_ble_eq_true rfl)) dX3_head_2 ⟨Nat.le_of_ble_eq_true rfl, Nat.le_of_ble_eq_true rfl⟩) ?_
  refine lv_astore_nN (lv' := [(2, .null), (0, .ref (A 0)), (1, .int (bi))]) hx hb dX3_head_5 rfl hl (by decide) rfl (fun ls hl => ?_)
  refine lv_aload_nN hx hb dX3_head_6 rfl (lv_at hl 0 rfl) ?_
  refine lv_ifnonnullN hx hb dX3_head_7 ?_
  refine lv_iconst (v := (-1)) hx hb dX3_head_10 (by decide +kernel) ?_
  refine lv_goto (tgt := 21) hx hb dX3_head_11 (by decide) ?_
  exact r_iI hx hb hr LB.nil (Nat.le_refl _) (Nat.le_refl _) ⟨A, σ, dw, hC, CFr.rf, rfl, Or.inl ⟨hN, rfl⟩⟩ dX3_head_21 hlocks
set_option maxHeartbeats 4000000 in
set_option maxRecDepth 100000 in
/-- head_y -/
theorem c_X3_head_y (l : Launch) (D : va_G) (g : Nat → ClassId) (b0 : Nat) (H : Heap) (A : Nat → Nat) (σ : SG) (dw : Nat → Int64) (hC : CR D g b0 A σ dw H) (b : Nat) (hb4 : b < sB σ) : Met l yX3_head wsX3_head ({ frames := 1, cells := 0, slots := 0, locals := 21 } : Room) (kPc D g [.ref (A 0), .int (nI b)] H) (kI (PubQ D g b0 H A σ (SpHead σ (nI b)))) 0 0 (kF b0) := by
  refine Met.ofW (cc := cX3_head) (maxL := 3) (ret := (some .int)) (by decide) rfl ?_
  intro p e s m args below meth c s₁ B hml hv
  obtain ⟨rfl, hH, hK⟩ := hv
  have hx := B.exec
  have hb := B.bytes
  have hr := B.returns
  have hts := atoms_spec (ws := wsX3_head) B.pre
  have hown : s.vm.findClass RX3 = some m.cls := findClass_of_methodNamed B.named
  have hlocks := B.notSynchronized
  rw [hH]
  have hl := lv_entry ([.ref (A 0), .int (nI b)]) (n := 3) (Nat.le_of_ble_eq_true rfl)
  rw [lg_entry_eq]
  generalize (lg_sl ([.ref (A 0), .int (nI b)]) ++ List.replicate (3 - (lg_sl ([.ref (A 0), .int (nI b)])).length) Slot.unset).toArray = ls at hl ⊢
  have hl : lv_has ls 3 [(0, .ref (A 0)), (1, .int (nI b))] := hl
  have hVB := hC.wf
  have hV4 : sV σ ≤ 400 := hVB.2.1
  have hB4 : sB σ ≤ 40 := hVB.2.2.2.1
  have hhd := hVB.2.2.2.2.1 b hb4
  refine lv_aload_n hx hb dX3_head_0 rfl (lv_at hl 0 rfl) ?_
  refine lv_iload_n hx hb dX3_head_1 rfl (lv_at hl 1 rfl) ?_
  refine k_callX (va_runV (As := [.int (nI b)]) (rest := []) ⟨hx, hb, hml, hown, hts⟩ (c_X3_branchAt_y l D g b0 H A σ dw hC b hb4) (cwV 1 hts gX3_head_X3_branchAt rfl rfl rfl (by decide +kernel) ⟨Nat.le_of_ble_eq_true rfl, Nat.le_of_ble_eq_true rfl⟩) ⟨kPc_blind, k_recv hK hC.o rfl, fun U hU hW => kPc_at hK hU hW⟩ rfl rfl hl.1 rfl (lv_room (Nat.le_of_ble_eq_true rfl)) dX3_head_2 ⟨Nat.le_of_ble_eq_true rfl, Nat.le_of_ble_eq_true rfl⟩) ?_
  refine lv_astore_n (lv' := [(2, .ref (A (2000 + b))), (0, .ref (A 0)), (1, .int (nI b))]) hx hb dX3_head_5 rfl hl (by decide) rfl (fun ls hl => ?_)
  refine lv_aload_n hx hb dX3_head_6 rfl (lv_at hl 0 rfl) ?_
  refine lv_ifnonnull (tgt := 14) hx hb dX3_head_7 (by decide) ?_
  refine lv_aload_n hx hb dX3_head_14 rfl (lv_at hl 0 rfl) ?_
  refine k_getN (ci := 0) (C := RX0) (T := TX0) (N := 1) (v := .ref (A (16 + 4 * (sH σ b)))) hx hb hts (by decide +kernel) hown hK (hC.ba hb4) rfl 0 (by decide) rfl (List.mem_of_getElem? (i := 4) rfl) rfl dX3_head_15 ?_
  refine k_getN (ci := 2) (C := RX2) (T := TX2) (N := 5) (v := .int (nI (sH σ b))) hx hb hts (by decide +kernel) hown hK (hC.ver hhd) rfl 0 (by decide) rfl (List.mem_of_getElem? (i := 0) rfl) rfl dX3_head_18 ?_
  exact r_iI hx hb hr LB.nil (Nat.le_refl _) (Nat.le_refl _) ⟨A, σ, dw, hC, CFr.rf, rfl, Or.inr ⟨b, hb4, rfl, rfl⟩⟩ dX3_head_21 hlocks
theorem c_X3_head (l : Launch) (D : va_G) (g : Nat → ClassId) (b0 : Nat) (H : Heap) (A : Nat → Nat) (σ : SG) (dw : Nat → Int64) (hC : CR D g b0 A σ dw H) (bi : Int32) : Met l yX3_head wsX3_head ({ frames := 1, cells := 0, slots := 0, locals := 21 } : Room) (kPc D g [.ref (A 0), .int bi] H) (kI (PubQ D g b0 H A σ (SpHead σ bi))) 0 0 (kF b0) := by
  rcases br_dec σ bi with h | ⟨b, hb4, rfl⟩
  · exact c_X3_head_n l D g b0 H A σ dw hC bi h
  · exact c_X3_head_y l D g b0 H A σ dw hC b hb4
set_option maxHeartbeats 4000000 in
set_option maxRecDepth 100000 in
/-- base_n1 -/
theorem c_X3_base_n1 (l : Launch) (D : va_G) (g : Nat → ClassId) (b0 : Nat) (H : Heap) (A : Nat → Nat) (σ : SG) (dw : Nat → Int64) (hC : CR D g b0 A σ dw H) (ai bi : Int32) (hN : BrN σ ai) : Met l yX3_base wsX3_base ({ frames := 2, cells := 0, slots := 0, locals := 53 } : Room) (kPc D g [.ref (A 0), .int (ai), .int (bi)] H) (kI (PubQ D g b0 H A σ (SpBase σ ai bi))) 0 0 (kF b0) := by
  refine Met.ofW (cc := cX3_base) (maxL := 6) (ret := (some .int)) (by decide) rfl ?_
  intro p e s m args below meth c s₁ B hml hv
  obtain ⟨rfl, hH, hK⟩ := hv
  have hx := B.exec
  have hb := B.bytes
  have hr := B.returns
  have hts := atoms_spec (ws := wsX3_base) B.pre
  have hown : s.vm.findClass RX3 = some m.cls := findClass_of_methodNamed B.named
  have hlocks := B.notSynchronized
  rw [hH]
  have hl := lv_entry ([.ref (A 0), .int (ai), .int (bi)]) (n := 6) (Nat.le_of_ble_eq_true rfl)
  rw [lg_entry_eq]
  generalize (lg_sl ([.ref (A 0), .int (ai), .int (bi)]) ++ List.replicate (6 - (lg_sl ([.ref (A 0), .int (ai), .int (bi)])).length) Slot.unset).toArray = ls at hl ⊢
  have hl : lv_has ls 6 [(0, .ref (A 0)), (1, .int (ai)), (2, .int (bi))] := hl
  have hVB := hC.wf
  have hV4 : sV σ ≤ 400 := hVB.2.1
  have hB4 : sB σ ≤ 40 := hVB.2.2.2.1
  refine lv_aload_n hx hb dX3_base_0 rfl (lv_at hl 0 rfl) ?_
  refine lv_iload_n hx hb dX3_base_1 rfl (lv_at hl 1 rfl) ?_
  refine k_callX (va_runV (As := [.int (ai)]) (rest := []) ⟨hx, hb, hml, hown, hts⟩ (c_X3_branchAt_n l D g b0 H A σ dw hC ai hN) (cwV 1 hts gX3_base_X3_branchAt rfl rfl rfl (by decide +kernel) ⟨Nat.le_of_ble_eq_true rfl, Nat.le_of_ble_eq_true rfl⟩) ⟨kPc_blind, k_recv hK hC.o rfl, fun U hU hW => kPc_at hK hU hW⟩ rfl rfl hl.1 rfl (lv_room (Nat.le_of_ble_eq_true rfl)) dX3_base_2 ⟨Nat.le_of_ble_eq_true rfl, Nat.le_of_ble_eq_true rfl⟩) ?_
  refine lv_astore_nN (lv' := [(3, .null), (0, .ref (A 0)), (1, .int (ai)), (2, .int (bi))]) hx hb dX3_base_5 rfl hl (by decide) rfl (fun ls hl => ?_)
  refine lv_aload_n hx hb dX3_base_6 rfl (lv_at hl 1 rfl) ?_
  refine lv_iload_n hx hb dX3_base_7 rfl (lv_at hl 3 rfl) ?_
  rcases br_dec σ bi with hM | ⟨b, hb5, rfl⟩
  · skip
    refine k_callX (va_runV (As := [.int (bi)]) (rest := []) ⟨hx, hb, hml, hown, hts⟩ (c_X3_branchAt_n l D g b0 H A σ dw hC bi hM) (cwV 1 hts gX3_base_X3_branchAt rfl rfl rfl (by decide +kernel) ⟨Nat.le_of_ble_eq_true rfl, Nat.le_of_ble_eq_true rfl⟩) ⟨kPc_blind, k_recv hK hC.o rfl, fun U hU hW => kPc_at hK hU hW⟩ rfl rfl hl.1 rfl (lv_room (Nat.le_of_ble_eq_true rfl)) dX3_base_8 ⟨Nat.le_of_ble_eq_true rfl, Nat.le_of_ble_eq_true rfl⟩) ?_
    refine lv_astoreN (lv' := [(4, .null), (3, .null), (0, .ref (A 0)), (1, .int (ai)), (2, .int (bi))]) hx hb dX3_base_11 hl (by decide) rfl (fun ls hl => ?_)
    refine lv_aload_nN hx hb dX3_base_13 rfl (lv_at hl 1 rfl) ?_
    refine lv_ifnullN (tgt := 22) hx hb dX3_base_14 (by decide) ?_
    refine lv_iconst (v := (-1)) hx hb dX3_base_22 (by decide +kernel) ?_
    exact r_iI hx hb hr LB.nil (Nat.le_refl _) (Nat.le_refl _) ⟨A, σ, dw, hC, CFr.rf, rfl, Or.inl ⟨Or.inl hN, rfl⟩⟩ dX3_base_23 hlocks
  · skip
    refine k_callX (va_runV (As := [.int (nI b)]) (rest := []) ⟨hx, hb, hml, hown, hts⟩ (c_X3_branchAt_y l D g b0 H A σ dw hC b hb5) (cwV 1 hts gX3_base_X3_branchAt rfl rfl rfl (by decide +kernel) ⟨Nat.le_of_ble_eq_true rfl, Nat.le_of_ble_eq_true rfl⟩) ⟨kPc_blind, k_recv hK hC.o rfl, fun U hU hW => kPc_at hK hU hW⟩ rfl rfl hl.1 rfl (lv_room (Nat.le_of_ble_eq_true rfl)) dX3_base_8 ⟨Nat.le_of_ble_eq_true rfl, Nat.le_of_ble_eq_true rfl⟩) ?_
    refine lv_astore (lv' := [(4, .ref (A (2000 + b))), (3, .null), (0, .ref (A 0)), (1, .int (ai)), (2, .int (nI b))]) hx hb dX3_base_11 hl (by decide) rfl (fun ls hl => ?_)
    refine lv_aload_nN hx hb dX3_base_13 rfl (lv_at hl 1 rfl) ?_
    refine lv_ifnullN (tgt := 22) hx hb dX3_base_14 (by decide) ?_
    refine lv_iconst (v := (-1)) hx hb dX3_base_22 (by decide +kernel) ?_
    exact r_iI hx hb hr LB.nil (Nat.le_refl _) (Nat.le_refl _) ⟨A, σ, dw, hC, CFr.rf, rfl, Or.inl ⟨Or.inl hN, rfl⟩⟩ dX3_base_23 hlocks
set_option maxHeartbeats 4000000 in
set_option maxRecDepth 100000 in
/-- base_n2 -/
theorem c_X3_base_n2 (l : Launch) (D : va_G) (g : Nat → ClassId) (b0 : Nat) (H : Heap) (A : Nat → Nat) (σ : SG) (dw : Nat → Int64) (hC : CR D g b0 A σ dw H) (a : Nat) (ha4 : a < sB σ) (bi : Int32) (hN : BrN σ bi) : Met l yX3_base wsX3_base ({ frames := 2, cells := 0, slots := 0, locals := 53 } : Room) (kPc D g [.ref (A 0), .int (nI a), .int (bi)] H) (kI (PubQ D g b0 H A σ (SpBase σ (nI a) bi))) 0 0 (kF b0) := by
  refine Met.ofW (cc := cX3_base) (maxL := 6) (ret := (some .int)) (by decide) rfl ?_
  intro p e s m args below meth c s₁ B hml hv
  obtain ⟨rfl, hH, hK⟩ := hv
  have hx := B.exec
  have hb := B.bytes
  have hr := B.returns
  have hts := atoms_spec (ws := wsX3_base) B.pre
  have hown : s.vm.findClass RX3 = some m.cls := findClass_of_methodNamed B.named
  have hlocks := B.notSynchronized
  rw [hH]
  have hl := lv_entry ([.ref (A 0), .int (nI a), .int (bi)]) (n := 6) (Nat.le_of_ble_eq_true rfl)
  rw [lg_entry_eq]
  generalize (lg_sl ([.ref (A 0), .int (nI a), .int (bi)]) ++ List.replicate (6 - (lg_sl ([.ref (A 0), .int (nI a), .int (bi)])).length) Slot.unset).toArray = ls at hl ⊢
  have hl : lv_has ls 6 [(0, .ref (A 0)), (1, .int (nI a)), (2, .int (bi))] := hl
  have hVB := hC.wf
  have hV4 : sV σ ≤ 400 := hVB.2.1
  have hB4 : sB σ ≤ 40 := hVB.2.2.2.1
  refine lv_aload_n hx hb dX3_base_0 rfl (lv_at hl 0 rfl) ?_
  refine lv_iload_n hx hb dX3_base_1 rfl (lv_at hl 1 rfl) ?_
  refine k_callX (va_runV (As := [.int (nI a)]) (rest := []) ⟨hx, hb, hml, hown, hts⟩ (c_X3_branchAt_y l D g b0 H A σ dw hC a ha4) (cwV 1 hts gX3_base_X3_branchAt rfl rfl rfl (by decide +kernel) ⟨Nat.le_of_ble_eq_true rfl, Nat.le_of_ble_eq_true rfl⟩) ⟨kPc_blind, k_recv hK hC.o rfl, fun U hU hW => kPc_at hK hU hW⟩ rfl rfl hl.1 rfl (lv_room (Nat.le_of_ble_eq_true rfl)) dX3_base_2 ⟨Nat.le_of_ble_eq_true rfl, Nat.le_of_ble_eq_true rfl⟩) ?_
  refine lv_astore_n (lv' := [(3, .ref (A (2000 + a))), (0, .ref (A 0)), (1, .int (nI a)), (2, .int (bi))]) hx hb dX3_base_5 rfl hl (by decide) rfl (fun ls hl => ?_)
  refine lv_aload_n hx hb dX3_base_6 rfl (lv_at hl 1 rfl) ?_
  refine lv_iload_n hx hb dX3_base_7 rfl (lv_at hl 3 rfl) ?_
  refine k_callX (va_runV (As := [.int (bi)]) (rest := []) ⟨hx, hb, hml, hown, hts⟩ (c_X3_branchAt_n l D g b0 H A σ dw hC bi hN) (cwV 1 hts gX3_base_X3_branchAt rfl rfl rfl (by decide +kernel) ⟨Nat.le_of_ble_eq_true rfl, Nat.le_of_ble_eq_true rfl⟩) ⟨kPc_blind, k_recv hK hC.o rfl, fun U hU hW => kPc_at hK hU hW⟩ rfl rfl hl.1 rfl (lv_room (Nat.le_of_ble_eq_true rfl)) dX3_base_8 ⟨Nat.le_of_ble_eq_true rfl, Nat.le_of_ble_eq_true rfl⟩) ?_
  refine lv_astoreN (lv' := [(4, .null), (3, .ref (A (2000 + a))), (0, .ref (A 0)), (1, .int (nI a)), (2, .int (bi))]) hx hb dX3_base_11 hl (by decide) rfl (fun ls hl => ?_)
  refine lv_aload_n hx hb dX3_base_13 rfl (lv_at hl 1 rfl) ?_
  refine lv_ifnull hx hb dX3_base_14 ?_
  refine lv_aloadN hx hb dX3_base_17 (lv_at hl 0 rfl) ?_
  refine lv_ifnonnullN hx hb dX3_base_19 ?_
  refine lv_iconst (v := (-1)) hx hb dX3_base_22 (by decide +kernel) ?_
  exact r_iI hx hb hr LB.nil (Nat.le_refl _) (Nat.le_refl _) ⟨A, σ, dw, hC, CFr.rf, rfl, Or.inl ⟨Or.inr hN, rfl⟩⟩ dX3_base_23 hlocks
set_option maxHeartbeats 4000000 in
set_option maxRecDepth 100000 in
/-- base_y0 -/
theorem c_X3_base_y0 (l : Launch) (D : va_G) (g : Nat → ClassId) (b0 : Nat) (H : Heap) (A : Nat → Nat) (σ : SG) (dw : Nat → Int64) (hC : CR D g b0 A σ dw H) (a b : Nat) (ha4 : a < sB σ) (hb4 : b < sB σ) (hgc : GC0 σ (sH σ a) (sH σ b)) : Met l yX3_base wsX3_base ({ frames := 2, cells := 0, slots := 0, locals := 53 } : Room) (kPc D g [.ref (A 0), .int (nI a), .int (nI b)] H) (kI (PubQ D g b0 H A σ (SpBase σ (nI a) (nI b)))) 0 0 (kF b0) := by
  refine Met.ofW (cc := cX3_base) (maxL := 6) (ret := (some .int)) (by decide) rfl ?_
  intro p e s m args below meth c s₁ B hml hv
  obtain ⟨rfl, hH, hK⟩ := hv
  have hx := B.exec
  have hb := B.bytes
  have hr := B.returns
  have hts := atoms_spec (ws := wsX3_base) B.pre
  have hown : s.vm.findClass RX3 = some m.cls := findClass_of_methodNamed B.named
  have hlocks := B.notSynchronized
  rw [hH]
  have hl := lv_entry ([.ref (A 0), .int (nI a), .int (nI b)]) (n := 6) (Nat.le_of_ble_eq_true rfl)
  rw [lg_entry_eq]
  generalize (lg_sl ([.ref (A 0), .int (nI a), .int (nI b)]) ++ List.replicate (6 - (lg_sl ([.ref (A 0), .int (nI a), .int (nI b)])).length) Slot.unset).toArray = ls at hl ⊢
  have hl : lv_has ls 6 [(0, .ref (A 0)), (1, .int (nI a)), (2, .int (nI b))] := hl
  have hVB := hC.wf
  have hV4 : sV σ ≤ 400 := hVB.2.1
  have hB4 : sB σ ≤ 40 := hVB.2.2.2.1
  have hhda := hVB.2.2.2.2.1 a ha4
  have hhd := hVB.2.2.2.2.1 b hb4
  refine lv_aload_n hx hb dX3_base_0 rfl (lv_at hl 0 rfl) ?_
  refine lv_iload_n hx hb dX3_base_1 rfl (lv_at hl 1 rfl) ?_
  refine k_callX (va_runV (As := [.int (nI a)]) (rest := []) ⟨hx, hb, hml, hown, hts⟩ (c_X3_branchAt_y l D g b0 H A σ dw hC a ha4) (cwV 1 hts gX3_base_X3_branchAt rfl rfl rfl (by decide +kernel) ⟨Nat.le_of_ble_eq_true rfl, Nat.le_of_ble_eq_true rfl⟩) ⟨kPc_blind, k_recv hK hC.o rfl, fun U hU hW => kPc_at hK hU hW⟩ rfl rfl hl.1 rfl (lv_room (Nat.le_of_ble_eq_true rfl)) dX3_base_2 ⟨Nat.le_of_ble_eq_true rfl, Nat.le_of_ble_eq_true rfl⟩) ?_
  refine lv_astore_n (lv' := [(3, .ref (A (2000 + a))), (0, .ref (A 0)), (1, .int (nI a)), (2, .int (nI b))]) hx hb dX3_base_5 rfl hl (by decide) rfl (fun ls hl => ?_)
  refine lv_aload_n hx hb dX3_base_6 rfl (lv_at hl 1 rfl) ?_
  refine lv_iload_n hx hb dX3_base_7 rfl (lv_at hl 3 rfl) ?_
  refine k_callX (va_runV (As := [.int (nI b)]) (rest := []) ⟨hx, hb, hml, hown, hts⟩ (c_X3_branchAt_y l D g b0 H A σ dw hC b hb4) (cwV 1 hts gX3_base_X3_branchAt rfl rfl rfl (by decide +kernel) ⟨Nat.le_of_ble_eq_true rfl, Nat.le_of_ble_eq_true rfl⟩) ⟨kPc_blind, k_recv hK hC.o rfl, fun U hU hW => kPc_at hK hU hW⟩ rfl rfl hl.1 rfl (lv_room (Nat.le_of_ble_eq_true rfl)) dX3_base_8 ⟨Nat.le_of_ble_eq_true rfl, Nat.le_of_ble_eq_true rfl⟩) ?_
  refine lv_astore (lv' := [(4, .ref (A (2000 + b))), (3, .ref (A (2000 + a))), (0, .ref (A 0)), (1, .int (nI a)), (2, .int (nI b))]) hx hb dX3_base_11 hl (by decide) rfl (fun ls hl => ?_)
  refine lv_aload_n hx hb dX3_base_13 rfl (lv_at hl 1 rfl) ?_
  refine lv_ifnull hx hb dX3_base_14 ?_
  refine lv_aload hx hb dX3_base_17 (lv_at hl 0 rfl) ?_
  refine lv_ifnonnull (tgt := 24) hx hb dX3_base_19 (by decide) ?_
  refine lv_aload_n hx hb dX3_base_24 rfl (lv_at hl 2 rfl) ?_
  refine lv_aload_n hx hb dX3_base_25 rfl (lv_at hl 1 rfl) ?_
  refine k_getN (ci := 0) (C := RX0) (T := TX0) (N := 1) (v := .ref (A (16 + 4 * (sH σ a)))) hx hb hts (by decide +kernel) hown hK (hC.ba ha4) rfl 0 (by decide) rfl (List.mem_of_getElem? (i := 4) rfl) rfl dX3_base_26 ?_
  refine lv_aload hx hb dX3_base_29 (lv_at hl 0 rfl) ?_
  refine k_getN (ci := 0) (C := RX0) (T := TX0) (N := 1) (v := .ref (A (16 + 4 * (sH σ b)))) hx hb hts (by decide +kernel) hown hK (hC.ba hb4) rfl 0 (by decide) rfl (List.mem_of_getElem? (i := 4) rfl) rfl dX3_base_31 ?_
  refine k_callX (va_runV (As := [.ref (A (16 + 4 * (sH σ a))), .ref (A (16 + 4 * (sH σ b)))]) (rest := []) ⟨hx, hb, hml, hown, hts⟩ (c_X3_greatestCommon_0 l D g b0 H A σ dw hC (sH σ a) (sH σ b) hhda hhd hgc) (cwV 2 hts gX3_base_X3_greatestCommon rfl rfl rfl (by decide +kernel) ⟨Nat.le_of_ble_eq_true rfl, Nat.le_of_ble_eq_true rfl⟩) ⟨kPc_blind, k_recv hK hC.o rfl, fun U hU hW => kPc_at hK hU hW⟩ rfl rfl hl.1 rfl (lv_room (Nat.le_of_ble_eq_true rfl)) dX3_base_34 ⟨Nat.le_of_ble_eq_true rfl, Nat.le_of_ble_eq_true rfl⟩) ?_
  refine lv_astoreN (lv' := [(5, .null), (4, .ref (A (2000 + b))), (3, .ref (A (2000 + a))), (0, .ref (A 0)), (1, .int (nI a)), (2, .int (nI b))]) hx hb dX3_base_37 hl (by decide) rfl (fun ls hl => ?_)
  refine lv_aloadN hx hb dX3_base_39 (lv_at hl 0 rfl) ?_
  refine lv_ifnonnullN hx hb dX3_base_41 ?_
  refine lv_bipush (v := (-3)) hx hb dX3_base_44 (by decide +kernel) ?_
  refine lv_goto (tgt := 54) hx hb dX3_base_46 (by decide) ?_
  exact r_iI hx hb hr LB.nil (Nat.le_refl _) (Nat.le_refl _) ⟨A, σ, dw, hC, CFr.rf, rfl, Or.inr ⟨a, b, ha4, hb4, rfl, rfl, Or.inl ⟨hgc, rfl⟩⟩⟩ dX3_base_54 hlocks
set_option maxHeartbeats 4000000 in
set_option maxRecDepth 100000 in
/-- base_y1 -/
theorem c_X3_base_y1 (l : Launch) (D : va_G) (g : Nat → ClassId) (b0 : Nat) (H : Heap) (A : Nat → Nat) (σ : SG) (dw : Nat → Int64) (hC : CR D g b0 A σ dw H) (a b : Nat) (ha4 : a < sB σ) (hb4 : b < sB σ) (c0 : Nat) (hgc : GC1 σ (sH σ a) (sH σ b) c0) : Met l yX3_base wsX3_base ({ frames := 2, cells := 0, slots := 0, locals := 53 } : Room) (kPc D g [.ref (A 0), .int (nI a), .int (nI b)] H) (kI (PubQ D g b0 H A σ (SpBase σ (nI a) (nI b)))) 0 0 (kF b0) := by
  refine Met.ofW (cc := cX3_base) (maxL := 6) (ret := (some .int)) (by decide) rfl ?_
  intro p e s m args below meth c s₁ B hml hv
  obtain ⟨rfl, hH, hK⟩ := hv
  have hx := B.exec
  have hb := B.bytes
  have hr := B.returns
  have hts := atoms_spec (ws := wsX3_base) B.pre
  have hown : s.vm.findClass RX3 = some m.cls := findClass_of_methodNamed B.named
  have hlocks := B.notSynchronized
  rw [hH]
  have hl := lv_entry ([.ref (A 0), .int (nI a), .int (nI b)]) (n := 6) (Nat.le_of_ble_eq_true rfl)
  rw [lg_entry_eq]
  generalize (lg_sl ([.ref (A 0), .int (nI a), .int (nI b)]) ++ List.replicate (6 - (lg_sl ([.ref (A 0), .int (nI a), .int (nI b)])).length) Slot.unset).toArray = ls at hl ⊢
  have hl : lv_has ls 6 [(0, .ref (A 0)), (1, .int (nI a)), (2, .int (nI b))] := hl
  have hVB := hC.wf
  have hV4 : sV σ ≤ 400 := hVB.2.1
  have hB4 : sB σ ≤ 40 := hVB.2.2.2.1
  have hhda := hVB.2.2.2.2.1 a ha4
  have hhd := hVB.2.2.2.2.1 b hb4
  have hcu := hVB.gc1 hhda hgc
  refine lv_aload_n hx hb dX3_base_0 rfl (lv_at hl 0 rfl) ?_
  refine lv_iload_n hx hb dX3_base_1 rfl (lv_at hl 1 rfl) ?_
  refine k_callX (va_runV (As := [.int (nI a)]) (rest := []) ⟨hx, hb, hml, hown, hts⟩ (c_X3_branchAt_y l D g b0 H A σ dw hC a ha4) (cwV 1 hts gX3_base_X3_branchAt rfl rfl rfl (by decide +kernel) ⟨Nat.le_of_ble_eq_true rfl, Nat.le_of_ble_eq_true rfl⟩) ⟨kPc_blind, k_recv hK hC.o rfl, fun U hU hW => kPc_at hK hU hW⟩ rfl rfl hl.1 rfl (lv_room (Nat.le_of_ble_eq_true rfl)) dX3_base_2 ⟨Nat.le_of_ble_eq_true rfl, Nat.le_of_ble_eq_true rfl⟩) ?_
  refine lv_astore_n (lv' := [(3, .ref (A (2000 + a))), (0, .ref (A 0)), (1, .int (nI a)), (2, .int (nI b))]) hx hb dX3_base_5 rfl hl (by decide) rfl (fun ls hl => ?_)
  refine lv_aload_n hx hb dX3_base_6 rfl (lv_at hl 1 rfl) ?_
  refine lv_iload_n hx hb dX3_base_7 rfl (lv_at hl 3 rfl) ?_
  refine k_callX (va_runV (As := [.int (nI b)]) (rest := []) ⟨hx, hb, hml, hown, hts⟩ (c_X3_branchAt_y l D g b0 H A σ dw hC b hb4) (cwV 1 hts gX3_base_X3_branchAt rfl rfl rfl (by decide +kernel) ⟨Nat.le_of_ble_eq_true rfl, Nat.le_of_ble_eq_true rfl⟩) ⟨kPc_blind, k_recv hK hC.o rfl, fun U hU hW => kPc_at hK hU hW⟩ rfl rfl hl.1 rfl (lv_room (Nat.le_of_ble_eq_true rfl)) dX3_base_8 ⟨Nat.le_of_ble_eq_true rfl, Nat.le_of_ble_eq_true rfl⟩) ?_
  refine lv_astore (lv' := [(4, .ref (A (2000 + b))), (3, .ref (A (2000 + a))), (0, .ref (A 0)), (1, .int (nI a)), (2, .int (nI b))]) hx hb dX3_base_11 hl (by decide) rfl (fun ls hl => ?_)
  refine lv_aload_n hx hb dX3_base_13 rfl (lv_at hl 1 rfl) ?_
  refine lv_ifnull hx hb dX3_base_14 ?_
  refine lv_aload hx hb dX3_base_17 (lv_at hl 0 rfl) ?_
  refine lv_ifnonnull (tgt := 24) hx hb dX3_base_19 (by decide) ?_
  refine lv_aload_n hx hb dX3_base_24 rfl (lv_at hl 2 rfl) ?_
  refine lv_aload_n hx hb dX3_base_25 rfl (lv_at hl 1 rfl) ?_
  refine k_getN (ci := 0) (C := RX0) (T := TX0) (N := 1) (v := .ref (A (16 + 4 * (sH σ a)))) hx hb hts (by decide +kernel) hown hK (hC.ba ha4) rfl 0 (by decide) rfl (List.mem_of_getElem? (i := 4) rfl) rfl dX3_base_26 ?_
  refine lv_aload hx hb dX3_base_29 (lv_at hl 0 rfl) ?_
  refine k_getN (ci := 0) (C := RX0) (T := TX0) (N := 1) (v := .ref (A (16 + 4 * (sH σ b)))) hx hb hts (by decide +kernel) hown hK (hC.ba hb4) rfl 0 (by decide) rfl (List.mem_of_getElem? (i := 4) rfl) rfl dX3_base_31 ?_
  refine k_callX (va_runV (As := [.ref (A (16 + 4 * (sH σ a))), .ref (A (16 + 4 * (sH σ b)))]) (rest := []) ⟨hx, hb, hml, hown, hts⟩ (c_X3_greatestCommon_1 l D g b0 H A σ dw hC (sH σ a) (sH σ b) hhda hhd c0 hgc) (cwV 2 hts gX3_base_X3_greatestCommon rfl rfl rfl (by decide +kernel) ⟨Nat.le_of_ble_eq_true rfl, Nat.le_of_ble_eq_true rfl⟩) ⟨kPc_blind, k_recv hK hC.o rfl, fun U hU hW => kPc_at hK hU hW⟩ rfl rfl hl.1 rfl (lv_room (Nat.le_of_ble_eq_true rfl)) dX3_base_34 ⟨Nat.le_of_ble_eq_true rfl, Nat.le_of_ble_eq_true rfl⟩) ?_
  refine lv_astore (lv' := [(5, .ref (A (16 + 4 * c0))), (4, .ref (A (2000 + b))), (3, .ref (A (2000 + a))), (0, .ref (A 0)), (1, .int (nI a)), (2, .int (nI b))]) hx hb dX3_base_37 hl (by decide) rfl (fun ls hl => ?_)
  refine lv_aload hx hb dX3_base_39 (lv_at hl 0 rfl) ?_
  refine lv_ifnonnull (tgt := 49) hx hb dX3_base_41 (by decide) ?_
  refine lv_aload hx hb dX3_base_49 (lv_at hl 0 rfl) ?_
  refine k_getN (ci := 2) (C := RX2) (T := TX2) (N := 5) (v := .int (nI c0)) hx hb hts (by decide +kernel) hown hK (hC.ver (show c0 < sV σ by omega)) rfl 0 (by decide) rfl (List.mem_of_getElem? (i := 0) rfl) rfl dX3_base_51 ?_
  exact r_iI hx hb hr LB.nil (Nat.le_refl _) (Nat.le_refl _) ⟨A, σ, dw, hC, CFr.rf, rfl, Or.inr ⟨a, b, ha4, hb4, rfl, rfl, Or.inr ⟨c0, hgc, rfl⟩⟩⟩ dX3_base_54 hlocks
theorem c_X3_base (l : Launch) (D : va_G) (g : Nat → ClassId) (b0 : Nat) (H : Heap) (A : Nat → Nat) (σ : SG) (dw : Nat → Int64) (hC : CR D g b0 A σ dw H) (ai bi : Int32) : Met l yX3_base wsX3_base ({ frames := 2, cells := 0, slots := 0, locals := 53 } : Room) (kPc D g [.ref (A 0), .int ai, .int bi] H) (kI (PubQ D g b0 H A σ (SpBase σ ai bi))) 0 0 (kF b0) := by
  rcases br_dec σ ai with h | ⟨a, ha4, rfl⟩
  · exact c_X3_base_n1 l D g b0 H A σ dw hC ai bi h
  · rcases br_dec σ bi with h | ⟨b, hb4, rfl⟩
    · exact c_X3_base_n2 l D g b0 H A σ dw hC a ha4 bi h
    · rcases gc_dec σ (sH σ a) (sH σ b) with h | ⟨c, h⟩
      · exact c_X3_base_y0 l D g b0 H A σ dw hC a b ha4 hb4 h
      · exact c_X3_base_y1 l D g b0 H A σ dw hC a b ha4 hb4 c h
set_option maxHeartbeats 4000000 in
set_option maxRecDepth 100000 in
/-- conflict -/
theorem c_X3_conflict (l : Launch) (D : va_G) (g : Nat → ClassId) (b0 : Nat) (H : Heap) (A : Nat → Nat) (σ : SG) (dw : Nat → Int64) (hC : CR D g b0 A σ dw H) (i wh : Int32) : Met l yX3_conflict wsX3_conflict ({ frames := 4, cells := 0, slots := 0, locals := 87 } : Room) (kPc D g [.ref (A 0), .int (i), .int (wh)] H) (kI (PubQ D g b0 H A σ (SpConflict σ i wh))) 0 0 (kF b0) := by
  refine Met.ofW (cc := cX3_conflict) (maxL := 4) (ret := (some .int)) (by decide) rfl ?_
  intro p e s m args below meth c s₁ B hml hv
  obtain ⟨rfl, hH, hK⟩ := hv
  have hx := B.exec
  have hb := B.bytes
  have hr := B.returns
  have hts := atoms_spec (ws := wsX3_conflict) B.pre
  have hown : s.vm.findClass RX3 = some m.cls := findClass_of_methodNamed B.named
  have hlocks := B.notSynchronized
  rw [hH]
  have hl := lv_entry ([.ref (A 0), .int (i), .int (wh)]) (n := 4) (Nat.le_of_ble_eq_true rfl)
  rw [lg_entry_eq]
  generalize (lg_sl ([.ref (A 0), .int (i), .int (wh)]) ++ List.replicate (4 - (lg_sl ([.ref (A 0), .int (i), .int (wh)])).length) Slot.unset).toArray = ls at hl ⊢
  have hl : lv_has ls 4 [(0, .ref (A 0)), (1, .int (i)), (2, .int (wh))] := hl
  have hVB := hC.wf
  have hV4 : sV σ ≤ 400 := hVB.2.1
  have hB4 : sB σ ≤ 40 := hVB.2.2.2.1
  refine lv_aload_n hx hb dX3_conflict_0 rfl (lv_at hl 0 rfl) ?_
  refine k_get (ci := 3) (C := RX3) (T := TX3) (N := 7) (v := .ref (A 5)) hx hb hts (by decide +kernel) hown hK hC.o rfl 5 (by decide) rfl (hts (.fieldLink RX3 28 RX3 "merged" "LVersionMerge$TripleSet;") (by decide +kernel)) rfl dX3_conflict_1 ?_
  refine lv_iload_n hx hb dX3_conflict_4 rfl (lv_at hl 1 rfl) ?_
  refine k_callS (va_runVN (As := [.int (i)]) (rest := []) ⟨hx, hb, hml, hown, hts⟩ (c_X1_crowdedKey l D g H (A 5) (A 6) (sM σ) hC.mg hC.mw i) ⟨va_cnB 1 hts gX3_conflict_X1_crowdedKey_n100 rfl rfl rfl (hK.2.1 (RX3, 100, yX1_crowdedKey) (List.mem_of_getElem? (i := 14) rfl)) (hts (.initialized RX1) (by decide +kernel)) (by decide +kernel) ⟨Nat.le_of_ble_eq_true rfl, Nat.le_of_ble_eq_true rfl⟩, hts (.instanceMethod yX1_crowdedKey) (by decide +kernel), hts (.selects RX1 yX1_crowdedKey yX1_crowdedKey) (by decide +kernel)⟩ ⟨kPc_blind, k_recv hK hC.mg rfl, fun U hU hW => kPc_at hK hU hW⟩ rfl rfl hl.1 rfl (lv_room (Nat.le_of_ble_eq_true rfl)) dX3_conflict_5 ⟨Nat.le_of_ble_eq_true rfl, Nat.le_of_ble_eq_true rfl⟩) (fun rk hrk => ?_)
  refine lv_istore_n (lv' := [(3, .int (rk)), (0, .ref (A 0)), (1, .int (i)), (2, .int (wh))]) hx hb dX3_conflict_8 rfl hl (by decide) rfl (fun ls hl => ?_)
  refine lv_iload_n hx hb dX3_conflict_9 rfl (lv_at hl 0 rfl) ?_
  refine lv_iconst (v := (-1)) hx hb dX3_conflict_10 (by decide +kernel) ?_
  rcases hrk with ⟨k, hk, hkc, hki, rfl⟩ | ⟨hno, rfl⟩
  · skip
    refine lv_icmp_ne (tgt := 17) hx hb dX3_conflict_11 (by decide) (fun _ => ?_) (fun q => absurd q (nI_neg (by omega)))
    refine lv_iload_n hx hb dX3_conflict_17 rfl (lv_at hl 3 rfl) ?_
    have hsw : wh = 0 ∨ wh = 1 ∨ wh = 2 ∨ (¬ wh = 0 ∧ ¬ wh = 1 ∧ ¬ wh = 2) := by
      by_cases z0 : wh = 0
      · exact Or.inl z0
      by_cases z1 : wh = 1
      · exact Or.inr (Or.inl z1)
      by_cases z2 : wh = 2
      · exact Or.inr (Or.inr (Or.inl z2))
      exact Or.inr (Or.inr (Or.inr ⟨z0, z1, z2⟩))
    rcases hsw with rfl | rfl | rfl | ⟨z0, z1, z2⟩
    · skip
      refine lv_tableIn (off := 26) (tgt := 44) hx hb dX3_conflict_18 (by decide +kernel) (by decide +kernel) (by decide +kernel) (by decide) ?_
      refine lv_iload_n hx hb dX3_conflict_44 rfl (lv_at hl 0 rfl) ?_
      exact r_iI hx hb hr LB.nil (Nat.le_refl _) (Nat.le_refl _) ⟨A, σ, dw, hC, CFr.rf, rfl, Or.inl ⟨k, hk, hkc, hki, Or.inl ⟨rfl, rfl⟩⟩⟩ dX3_conflict_45 hlocks
    · skip
      refine lv_tableIn (off := 28) (tgt := 46) hx hb dX3_conflict_18 (by decide +kernel) (by decide +kernel) (by decide +kernel) (by decide) ?_
      refine lv_aload_n hx hb dX3_conflict_46 rfl (lv_at hl 1 rfl) ?_
      refine k_get (ci := 3) (C := RX3) (T := TX3) (N := 7) (v := .ref (A 5)) hx hb hts (by decide +kernel) hown hK hC.o rfl 5 (by decide) rfl (hts (.fieldLink RX3 28 RX3 "merged" "LVersionMerge$TripleSet;") (by decide +kernel)) rfl dX3_conflict_47 ?_
      refine lv_iload_n hx hb dX3_conflict_50 rfl (lv_at hl 0 rfl) ?_
      refine k_callS (va_runVN (As := [.int (nI k)]) (rest := []) ⟨hx, hb, hml, hown, hts⟩ (c_X1_leastOfKey l D g H (A 5) (A 6) (sM σ) hC.mg hC.mw k hk) ⟨va_cnB 1 hts gX3_conflict_X1_leastOfKey_n104 rfl rfl rfl (hK.2.1 (RX3, 104, yX1_leastOfKey) (List.mem_of_getElem? (i := 15) rfl)) (hts (.initialized RX1) (by decide +kernel)) (by decide +kernel) ⟨Nat.le_of_ble_eq_true rfl, Nat.le_of_ble_eq_true rfl⟩, hts (.instanceMethod yX1_leastOfKey) (by decide +kernel), hts (.selects RX1 yX1_leastOfKey yX1_leastOfKey) (by decide +kernel)⟩ ⟨kPc_blind, k_recv hK hC.mg rfl, fun U hU hW => kPc_at hK hU hW⟩ rfl rfl hl.1 rfl (lv_room (Nat.le_of_ble_eq_true rfl)) dX3_conflict_51 ⟨Nat.le_of_ble_eq_true rfl, Nat.le_of_ble_eq_true rfl⟩) (fun ro hro => ?_)
      have hro2 : ¬ ((∀ z, z < 16 → bt (sM σ) (16 * k + z) = false) ∧ ro = -1) := fun ⟨q, _⟩ => by
        have := crowd_some hkc
        obtain ⟨z, hz, hz2⟩ := this
        rw [q z hz] at hz2; cases hz2
      have hro3 := hro.resolve_right hro2
      exact r_iI hx hb hr LB.nil (Nat.le_refl _) (Nat.le_refl _) ⟨A, σ, dw, hC, CFr.rf, rfl, Or.inl ⟨k, hk, hkc, hki, Or.inr (Or.inl ⟨rfl, hro3⟩)⟩⟩ dX3_conflict_54 hlocks
    · skip
      refine lv_tableIn (off := 37) (tgt := 55) hx hb dX3_conflict_18 (by decide +kernel) (by decide +kernel) (by decide +kernel) (by decide) ?_
      refine lv_aload_n hx hb dX3_conflict_55 rfl (lv_at hl 1 rfl) ?_
      refine k_get (ci := 3) (C := RX3) (T := TX3) (N := 7) (v := .ref (A 5)) hx hb hts (by decide +kernel) hown hK hC.o rfl 5 (by decide) rfl (hts (.fieldLink RX3 28 RX3 "merged" "LVersionMerge$TripleSet;") (by decide +kernel)) rfl dX3_conflict_56 ?_
      refine lv_iload_n hx hb dX3_conflict_59 rfl (lv_at hl 0 rfl) ?_
      refine k_callS (va_runVN (As := [.int (nI k)]) (rest := []) ⟨hx, hb, hml, hown, hts⟩ (c_X1_greatestOfKey l D g H (A 5) (A 6) (sM σ) hC.mg hC.mw k hk) ⟨va_cnB 1 hts gX3_conflict_X1_greatestOfKey_n107 rfl rfl rfl (hK.2.1 (RX3, 107, yX1_greatestOfKey) (List.mem_of_getElem? (i := 16) rfl)) (hts (.initialized RX1) (by decide +kernel)) (by decide +kernel) ⟨Nat.le_of_ble_eq_true rfl, Nat.le_of_ble_eq_true rfl⟩, hts (.instanceMethod yX1_greatestOfKey) (by decide +kernel), hts (.selects RX1 yX1_greatestOfKey yX1_greatestOfKey) (by decide +kernel)⟩ ⟨kPc_blind, k_recv hK hC.mg rfl, fun U hU hW => kPc_at hK hU hW⟩ rfl rfl hl.1 rfl (lv_room (Nat.le_of_ble_eq_true rfl)) dX3_conflict_60 ⟨Nat.le_of_ble_eq_true rfl, Nat.le_of_ble_eq_true rfl⟩) (fun ro hro => ?_)
      have hro2 : ¬ ((∀ z, z < 16 → bt (sM σ) (16 * k + z) = false) ∧ ro = -1) := fun ⟨q, _⟩ => by
        have := crowd_some hkc
        obtain ⟨z, hz, hz2⟩ := this
        rw [q z hz] at hz2; cases hz2
      have hro3 := hro.resolve_right hro2
      exact r_iI hx hb hr LB.nil (Nat.le_refl _) (Nat.le_refl _) ⟨A, σ, dw, hC, CFr.rf, rfl, Or.inl ⟨k, hk, hkc, hki, Or.inr (Or.inr (Or.inl ⟨rfl, hro3⟩))⟩⟩ dX3_conflict_63 hlocks
    · skip
      refine lv_tableOut (tgt := 64) hx hb dX3_conflict_18 (sw3 z0 z1 z2) (by decide) ?_
      refine lv_bipush (v := (-2)) hx hb dX3_conflict_64 (by decide +kernel) ?_
      exact r_iI hx hb hr LB.nil (Nat.le_refl _) (Nat.le_refl _) ⟨A, σ, dw, hC, CFr.rf, rfl, Or.inl ⟨k, hk, hkc, hki, Or.inr (Or.inr (Or.inr ⟨z0, z1, z2, rfl⟩))⟩⟩ dX3_conflict_66 hlocks
  · skip
    refine lv_icmp_ne (tgt := 17) hx hb dX3_conflict_11 (by decide) (fun q => absurd rfl q) (fun _ => ?_)
    refine lv_bipush (v := (-2)) hx hb dX3_conflict_14 (by decide +kernel) ?_
    exact r_iI hx hb hr LB.nil (Nat.le_refl _) (Nat.le_refl _) ⟨A, σ, dw, hC, CFr.rf, rfl, Or.inr ⟨hno, rfl⟩⟩ dX3_conflict_16 hlocks
set_option maxHeartbeats 4000000 in
set_option maxRecDepth 100000 in
/-- inverse_n -/
theorem c_X3_inverse_n (l : Launch) (D : va_G) (g : Nat → ClassId) (b0 : Nat) (H : Heap) (A : Nat → Nat) (σ : SG) (dw : Nat → Int64) (hC : CR D g b0 A σ dw H) (i : Int32) (hP : PaN σ i) : Met l yX3_inverse wsX3_inverse ({ frames := 2, cells := 0, slots := 0, locals := 42 } : Room) (kPc D g [.ref (A 0), .int (i)] H) (kI (PubQ D g b0 H A σ (SpInverse σ i))) 0 0 (kF b0) := by
  refine Met.ofW (cc := cX3_inverse) (maxL := 2) (ret := (some .int)) (by decide) rfl ?_
  intro p e s m args below meth c s₁ B hml hv
  obtain ⟨rfl, hH, hK⟩ := hv
  have hx := B.exec
  have hb := B.bytes
  have hr := B.returns
  have hts := atoms_spec (ws := wsX3_inverse) B.pre
  have hown : s.vm.findClass RX3 = some m.cls := findClass_of_methodNamed B.named
  have hlocks := B.notSynchronized
  rw [hH]
  have hl := lv_entry ([.ref (A 0), .int (i)]) (n := 2) (Nat.le_of_ble_eq_true rfl)
  rw [lg_entry_eq]
  generalize (lg_sl ([.ref (A 0), .int (i)]) ++ List.replicate (2 - (lg_sl ([.ref (A 0), .int (i)])).length) Slot.unset).toArray = ls at hl ⊢
  have hl : lv_has ls 2 [(0, .ref (A 0)), (1, .int (i))] := hl
  have hVB := hC.wf
  have hV4 : sV σ ≤ 400 := hVB.2.1
  have hB4 : sB σ ≤ 40 := hVB.2.2.2.1
  refine lv_aload_n hx hb dX3_inverse_0 rfl (lv_at hl 0 rfl) ?_
  refine lv_iload_n hx hb dX3_inverse_1 rfl (lv_at hl 1 rfl) ?_
  refine k_callX (va_runV (As := [.int (i)]) (rest := []) ⟨hx, hb, hml, hown, hts⟩ (c_X3_changedBy_n l D g b0 H A σ dw hC i hP.1 hP.2) (cwV 1 hts gX3_inverse_X3_changedBy rfl rfl rfl (by decide +kernel) ⟨Nat.le_of_ble_eq_true rfl, Nat.le_of_ble_eq_true rfl⟩) ⟨kPc_blind, k_recv hK hC.o rfl, fun U hU hW => kPc_at hK hU hW⟩ rfl rfl hl.1 rfl (lv_room (Nat.le_of_ble_eq_true rfl)) dX3_inverse_2 ⟨Nat.le_of_ble_eq_true rfl, Nat.le_of_ble_eq_true rfl⟩) ?_
  refine lv_ifnonnullN hx hb dX3_inverse_5 ?_
  refine lv_iconst (v := (-1)) hx hb dX3_inverse_8 (by decide +kernel) ?_
  refine lv_goto (tgt := 16) hx hb dX3_inverse_9 (by decide) ?_
  exact r_iI hx hb hr LB.nil (Nat.le_refl _) (Nat.le_refl _) ⟨A, σ, dw, hC, CFr.rf, rfl, Or.inl ⟨hP, rfl⟩⟩ dX3_inverse_16 hlocks
set_option maxHeartbeats 4000000 in
set_option maxRecDepth 100000 in
/-- inverse_y1 -/
theorem c_X3_inverse_y1 (l : Launch) (D : va_G) (g : Nat → ClassId) (b0 : Nat) (H : Heap) (A : Nat → Nat) (σ : SG) (dw : Nat → Int64) (hC : CR D g b0 A σ dw H) (n : Nat) (hn : n < sV σ) : Met l yX3_inverse wsX3_inverse ({ frames := 2, cells := 0, slots := 0, locals := 42 } : Room) (kPc D g [.ref (A 0), .int (nI n)] H) (kI (PubQ D g b0 H A σ (SpInverse σ (nI n)))) 0 0 (kF b0) := by
  refine Met.ofW (cc := cX3_inverse) (maxL := 2) (ret := (some .int)) (by decide) rfl ?_
  intro p e s m args below meth c s₁ B hml hv
  obtain ⟨rfl, hH, hK⟩ := hv
  have hx := B.exec
  have hb := B.bytes
  have hr := B.returns
  have hts := atoms_spec (ws := wsX3_inverse) B.pre
  have hown : s.vm.findClass RX3 = some m.cls := findClass_of_methodNamed B.named
  have hlocks := B.notSynchronized
  rw [hH]
  have hl := lv_entry ([.ref (A 0), .int (nI n)]) (n := 2) (Nat.le_of_ble_eq_true rfl)
  rw [lg_entry_eq]
  generalize (lg_sl ([.ref (A 0), .int (nI n)]) ++ List.replicate (2 - (lg_sl ([.ref (A 0), .int (nI n)])).length) Slot.unset).toArray = ls at hl ⊢
  have hl : lv_has ls 2 [(0, .ref (A 0)), (1, .int (nI n))] := hl
  have hVB := hC.wf
  have hV4 : sV σ ≤ 400 := hVB.2.1
  have hB4 : sB σ ≤ 40 := hVB.2.2.2.1
  refine lv_aload_n hx hb dX3_inverse_0 rfl (lv_at hl 0 rfl) ?_
  refine lv_iload_n hx hb dX3_inverse_1 rfl (lv_at hl 1 rfl) ?_
  refine k_callX (va_runV (As := [.int (nI n)]) (rest := []) ⟨hx, hb, hml, hown, hts⟩ (c_X3_changedBy_y1 l D g b0 H A σ dw hC n hn) (cwV 1 hts gX3_inverse_X3_changedBy rfl rfl rfl (by decide +kernel) ⟨Nat.le_of_ble_eq_true rfl, Nat.le_of_ble_eq_true rfl⟩) ⟨kPc_blind, k_recv hK hC.o rfl, fun U hU hW => kPc_at hK hU hW⟩ rfl rfl hl.1 rfl (lv_room (Nat.le_of_ble_eq_true rfl)) dX3_inverse_2 ⟨Nat.le_of_ble_eq_true rfl, Nat.le_of_ble_eq_true rfl⟩) ?_
  refine lv_ifnonnull (tgt := 12) hx hb dX3_inverse_5 (by decide) ?_
  refine lv_iload_n hx hb dX3_inverse_12 rfl (lv_at hl 1 rfl) ?_
  refine k_callX (va_runS (As := [.int (nI n)]) (rest := []) ⟨hx, hb, hml, hown, hts⟩ (c_X3_turnedRound l D g H (nI n)) (va_cwS 1 hts gX3_inverse_X3_turnedRound rfl rfl rfl (by decide +kernel) ⟨Nat.le_of_ble_eq_true rfl, Nat.le_of_ble_eq_true rfl⟩) ⟨kPc_blind, fun U hU hW => kPc_at hK hU hW⟩ rfl rfl hl.1 rfl (lv_room (Nat.le_of_ble_eq_true rfl)) dX3_inverse_13 ⟨Nat.le_of_ble_eq_true rfl, Nat.le_of_ble_eq_true rfl⟩) ?_
  exact r_iI hx hb hr LB.nil (Nat.le_refl _) (Nat.le_refl _) ⟨A, σ, dw, hC, CFr.rf, rfl, Or.inr ⟨fun q => q.1 n hn rfl, rfl⟩⟩ dX3_inverse_16 hlocks
set_option maxHeartbeats 4000000 in
set_option maxRecDepth 100000 in
/-- inverse_y2 -/
theorem c_X3_inverse_y2 (l : Launch) (D : va_G) (g : Nat → ClassId) (b0 : Nat) (H : Heap) (A : Nat → Nat) (σ : SG) (dw : Nat → Int64) (hC : CR D g b0 A σ dw H) (n : Nat) (hn : n < sV σ) : Met l yX3_inverse wsX3_inverse ({ frames := 2, cells := 0, slots := 0, locals := 42 } : Room) (kPc D g [.ref (A 0), .int ((-1) - nI n)] H) (kI (PubQ D g b0 H A σ (SpInverse σ ((-1) - nI n)))) 0 0 (kF b0) := by
  refine Met.ofW (cc := cX3_inverse) (maxL := 2) (ret := (some .int)) (by decide) rfl ?_
  intro p e s m args below meth c s₁ B hml hv
  obtain ⟨rfl, hH, hK⟩ := hv
  have hx := B.exec
  have hb := B.bytes
  have hr := B.returns
  have hts := atoms_spec (ws := wsX3_inverse) B.pre
  have hown : s.vm.findClass RX3 = some m.cls := findClass_of_methodNamed B.named
  have hlocks := B.notSynchronized
  rw [hH]
  have hl := lv_entry ([.ref (A 0), .int ((-1) - nI n)]) (n := 2) (Nat.le_of_ble_eq_true rfl)
  rw [lg_entry_eq]
  generalize (lg_sl ([.ref (A 0), .int ((-1) - nI n)]) ++ List.replicate (2 - (lg_sl ([.ref (A 0), .int ((-1) - nI n)])).length) Slot.unset).toArray = ls at hl ⊢
  have hl : lv_has ls 2 [(0, .ref (A 0)), (1, .int ((-1) - nI n))] := hl
  have hVB := hC.wf
  have hV4 : sV σ ≤ 400 := hVB.2.1
  have hB4 : sB σ ≤ 40 := hVB.2.2.2.1
  refine lv_aload_n hx hb dX3_inverse_0 rfl (lv_at hl 0 rfl) ?_
  refine lv_iload_n hx hb dX3_inverse_1 rfl (lv_at hl 1 rfl) ?_
  refine k_callX (va_runV (As := [.int ((-1) - nI n)]) (rest := []) ⟨hx, hb, hml, hown, hts⟩ (c_X3_changedBy_y2 l D g b0 H A σ dw hC n hn) (cwV 1 hts gX3_inverse_X3_changedBy rfl rfl rfl (by decide +kernel) ⟨Nat.le_of_ble_eq_true rfl, Nat.le_of_ble_eq_true rfl⟩) ⟨kPc_blind, k_recv hK hC.o rfl, fun U hU hW => kPc_at hK hU hW⟩ rfl rfl hl.1 rfl (lv_room (Nat.le_of_ble_eq_true rfl)) dX3_inverse_2 ⟨Nat.le_of_ble_eq_true rfl, Nat.le_of_ble_eq_true rfl⟩) ?_
  refine lv_ifnonnull (tgt := 12) hx hb dX3_inverse_5 (by decide) ?_
  refine lv_iload_n hx hb dX3_inverse_12 rfl (lv_at hl 1 rfl) ?_
  refine k_callX (va_runS (As := [.int ((-1) - nI n)]) (rest := []) ⟨hx, hb, hml, hown, hts⟩ (c_X3_turnedRound l D g H ((-1) - nI n)) (va_cwS 1 hts gX3_inverse_X3_turnedRound rfl rfl rfl (by decide +kernel) ⟨Nat.le_of_ble_eq_true rfl, Nat.le_of_ble_eq_true rfl⟩) ⟨kPc_blind, fun U hU hW => kPc_at hK hU hW⟩ rfl rfl hl.1 rfl (lv_room (Nat.le_of_ble_eq_true rfl)) dX3_inverse_13 ⟨Nat.le_of_ble_eq_true rfl, Nat.le_of_ble_eq_true rfl⟩) ?_
  exact r_iI hx hb hr LB.nil (Nat.le_refl _) (Nat.le_refl _) ⟨A, σ, dw, hC, CFr.rf, rfl, Or.inr ⟨fun q => q.2 n hn rfl, rfl⟩⟩ dX3_inverse_16 hlocks
theorem c_X3_inverse (l : Launch) (D : va_G) (g : Nat → ClassId) (b0 : Nat) (H : Heap) (A : Nat → Nat) (σ : SG) (dw : Nat → Int64) (hC : CR D g b0 A σ dw H) (i : Int32) : Met l yX3_inverse wsX3_inverse ({ frames := 2, cells := 0, slots := 0, locals := 42 } : Room) (kPc D g [.ref (A 0), .int i] H) (kI (PubQ D g b0 H A σ (SpInverse σ i))) 0 0 (kF b0) := by
  rcases pa_dec σ i with h | ⟨n, hn, rfl | rfl⟩
  · exact c_X3_inverse_n l D g b0 H A σ dw hC i h
  · exact c_X3_inverse_y1 l D g b0 H A σ dw hC n hn
  · exact c_X3_inverse_y2 l D g b0 H A σ dw hC n hn
set_option maxHeartbeats 4000000 in
set_option maxRecDepth 100000 in
/-- report_n -/
theorem c_X3_report_n (l : Launch) (D : va_G) (g : Nat → ClassId) (b0 : Nat) (H : Heap) (A : Nat → Nat) (σ : SG) (dw : Nat → Int64) (hC : CR D g b0 A σ dw H) (bi : Int32) (hN : BrN σ bi) : Met l yX3_report wsX3_report ({ frames := 4, cells := 0, slots := 0, locals := 86 } : Room) (kPc D g [.ref (A 0), .int (bi)] H) (kI (PubQ D g b0 H A σ (SpReport σ bi))) 0 0 (kF b0) := by
  refine Met.ofW (cc := cX3_report) (maxL := 3) (ret := (some .int)) (by decide) rfl ?_
  intro p e s m args below meth c s₁ B hml hv
  obtain ⟨rfl, hH, hK⟩ := hv
  have hx := B.exec
  have hb := B.bytes
  have hr := B.returns
  have hts := atoms_spec (ws := wsX3_report) B.pre
  have hown : s.vm.findClass RX3 = some m.cls := findClass_of_methodNamed B.named
  have hlocks := B.notSynchronized
  rw [hH]
  have hl := lv_entry ([.ref (A 0), .int (bi)]) (n := 3) (Nat.le_of_ble_eq_true rfl)
  rw [lg_entry_eq]
  generalize (lg_sl ([.ref (A 0), .int (bi)]) ++ List.replicate (3 - (lg_sl ([.ref (A 0), .int (bi)])).length) Slot.unset).toArray = ls at hl ⊢
  have hl : lv_has ls 3 [(0, .ref (A 0)), (1, .int (bi))] := hl
  have hVB := hC.wf
  have hV4 : sV σ ≤ 400 := hVB.2.1
  have hB4 : sB σ ≤ 40 := hVB.2.2.2.1
  refine lv_aload_n hx hb dX3_report_0 rfl (lv_at hl 0 rfl) ?_
  refine lv_iload_n hx hb dX3_report_1 rfl (lv_at hl 1 rfl) ?_
  refine k_callX (va_runV (As := [.int (bi)]) (rest := []) ⟨hx, hb, hml, hown, hts⟩ (c_X3_branchAt_n l D g b0 H A σ dw hC bi hN) (cwV 1 hts gX3_report_X3_branchAt rfl rfl rfl (by decide +kernel) ⟨Nat.le_of_ble_eq_true rfl, Nat.le_of_ble_eq_true rfl⟩) ⟨kPc_blind, k_recv hK hC.o rfl, fun U hU hW => kPc_at hK hU hW⟩ rfl rfl hl.1 rfl (lv_room (Nat.le_of_ble_eq_true rfl)) dX3_report_2 ⟨Nat.le_of_ble_eq_true rfl, Nat.le_of_ble_eq_true rfl⟩) ?_
  refine lv_astore_nN (lv' := [(2, .null), (0, .ref (A 0)), (1, .int (bi))]) hx hb dX3_report_5 rfl hl (by decide) rfl (fun ls hl => ?_)
  refine lv_aload_nN hx hb dX3_report_6 rfl (lv_at hl 0 rfl) ?_
  refine lv_ifnonnullN hx hb dX3_report_7 ?_
  refine lv_iconst (v := (-1)) hx hb dX3_report_10 (by decide +kernel) ?_
  exact r_iI hx hb hr LB.nil (Nat.le_refl _) (Nat.le_refl _) ⟨A, σ, dw, hC, CFr.rf, rfl, Or.inl ⟨hN, rfl⟩⟩ dX3_report_11 hlocks
set_option maxHeartbeats 4000000 in
set_option maxRecDepth 100000 in
/-- report_y -/
theorem c_X3_report_y (l : Launch) (D : va_G) (g : Nat → ClassId) (b0 : Nat) (H : Heap) (A : Nat → Nat) (σ : SG) (dw : Nat → Int64) (hC : CR D g b0 A σ dw H) (b : Nat) (hb4 : b < sB σ) : Met l yX3_report wsX3_report ({ frames := 4, cells := 0, slots := 0, locals := 86 } : Room) (kPc D g [.ref (A 0), .int (nI b)] H) (kI (PubQ D g b0 H A σ (SpReport σ (nI b)))) 0 0 (kF b0) := by
  refine Met.ofW (cc := cX3_report) (maxL := 3) (ret := (some .int)) (by decide) rfl ?_
  intro p e s m args below meth c s₁ B hml hv
  obtain ⟨rfl, hH, hK⟩ := hv
  have hx := B.exec
  have hb := B.bytes
  have hr := B.returns
  have hts := atoms_spec (ws := wsX3_report) B.pre
  have hown : s.vm.findClass RX3 = some m.cls := findClass_of_methodNamed B.named
  have hlocks := B.notSynchronized
  rw [hH]
  have hl := lv_entry ([.ref (A 0), .int (nI b)]) (n := 3) (Nat.le_of_ble_eq_true rfl)
  rw [lg_entry_eq]
  generalize (lg_sl ([.ref (A 0), .int (nI b)]) ++ List.replicate (3 - (lg_sl ([.ref (A 0), .int (nI b)])).length) Slot.unset).toArray = ls at hl ⊢
  have hl : lv_has ls 3 [(0, .ref (A 0)), (1, .int (nI b))] := hl
  have hVB := hC.wf
  have hV4 : sV σ ≤ 400 := hVB.2.1
  have hB4 : sB σ ≤ 40 := hVB.2.2.2.1
  have hhd := hVB.2.2.2.2.1 b hb4
  have hcl := cnt_le (crowd (bt (sW σ (sH σ b)))) 256
  refine lv_aload_n hx hb dX3_report_0 rfl (lv_at hl 0 rfl) ?_
  refine lv_iload_n hx hb dX3_report_1 rfl (lv_at hl 1 rfl) ?_
  refine k_callX (va_runV (As := [.int (nI b)]) (rest := []) ⟨hx, hb, hml, hown, hts⟩ (c_X3_branchAt_y l D g b0 H A σ dw hC b hb4) (cwV 1 hts gX3_report_X3_branchAt rfl rfl rfl (by decide +kernel) ⟨Nat.le_of_ble_eq_true rfl, Nat.le_of_ble_eq_true rfl⟩) ⟨kPc_blind, k_recv hK hC.o rfl, fun U hU hW => kPc_at hK hU hW⟩ rfl rfl hl.1 rfl (lv_room (Nat.le_of_ble_eq_true rfl)) dX3_report_2 ⟨Nat.le_of_ble_eq_true rfl, Nat.le_of_ble_eq_true rfl⟩) ?_
  refine lv_astore_n (lv' := [(2, .ref (A (2000 + b))), (0, .ref (A 0)), (1, .int (nI b))]) hx hb dX3_report_5 rfl hl (by decide) rfl (fun ls hl => ?_)
  refine lv_aload_n hx hb dX3_report_6 rfl (lv_at hl 0 rfl) ?_
  refine lv_ifnonnull (tgt := 12) hx hb dX3_report_7 (by decide) ?_
  refine lv_aload_n hx hb dX3_report_12 rfl (lv_at hl 0 rfl) ?_
  refine k_getN (ci := 0) (C := RX0) (T := TX0) (N := 1) (v := .ref (A (16 + 4 * (sH σ b)))) hx hb hts (by decide +kernel) hown hK (hC.ba hb4) rfl 0 (by decide) rfl (List.mem_of_getElem? (i := 4) rfl) rfl dX3_report_13 ?_
  refine k_getN (ci := 2) (C := RX2) (T := TX2) (N := 5) (v := .ref (A (17 + 4 * (sH σ b)))) hx hb hts (by decide +kernel) hown hK (hC.ver hhd) rfl 3 (by decide) rfl (List.mem_of_getElem? (i := 3) rfl) rfl dX3_report_16 ?_
  refine k_callX (va_runVN (As := []) (rest := []) ⟨hx, hb, hml, hown, hts⟩ (c_X1_crowdedKeys l D g H (A (17 + 4 * (sH σ b))) (A (18 + 4 * (sH σ b))) (sW σ (sH σ b)) (hC.ts hhd) (hC.tw hhd)) ⟨va_cnB 0 hts gX3_report_X1_crowdedKeys_n142 rfl rfl rfl (hK.2.1 (RX3, 142, yX1_crowdedKeys) (List.mem_of_getElem? (i := 13) rfl)) (hts (.initialized RX1) (by decide +kernel)) (by decide +kernel) ⟨Nat.le_of_ble_eq_true rfl, Nat.le_of_ble_eq_true rfl⟩, hts (.instanceMethod yX1_crowdedKeys) (by decide +kernel), hts (.selects RX1 yX1_crowdedKeys yX1_crowdedKeys) (by decide +kernel)⟩ ⟨kPc_blind, k_recv hK (hC.ts hhd) rfl, fun U hU hW => kPc_at hK hU hW⟩ rfl rfl hl.1 rfl (lv_room (Nat.le_of_ble_eq_true rfl)) dX3_report_19 ⟨Nat.le_of_ble_eq_true rfl, Nat.le_of_ble_eq_true rfl⟩) ?_
  refine n_if_ne (tgt := 29) hx hb dX3_report_22 (by decide) (by omega) (fun c_777 => ?_) (fun c_777 => ?_)
  · skip
    refine lv_iconst (v := b2i false) hx hb dX3_report_29 (by decide +kernel) ?_
    exact r_iI hx hb hr LB.nil (Nat.le_refl _) (Nat.le_refl _) ⟨A, σ, dw, hC, CFr.rf, rfl, Or.inr ⟨b, hb4, rfl, by rw [decide_eq_false c_777]⟩⟩ dX3_report_30 hlocks
  · skip
    refine lv_iconst (v := b2i true) hx hb dX3_report_25 (by decide +kernel) ?_
    refine lv_goto (tgt := 30) hx hb dX3_report_26 (by decide) ?_
    exact r_iI hx hb hr LB.nil (Nat.le_refl _) (Nat.le_refl _) ⟨A, σ, dw, hC, CFr.rf, rfl, Or.inr ⟨b, hb4, rfl, by rw [decide_eq_true c_777]⟩⟩ dX3_report_30 hlocks
theorem c_X3_report (l : Launch) (D : va_G) (g : Nat → ClassId) (b0 : Nat) (H : Heap) (A : Nat → Nat) (σ : SG) (dw : Nat → Int64) (hC : CR D g b0 A σ dw H) (bi : Int32) : Met l yX3_report wsX3_report ({ frames := 4, cells := 0, slots := 0, locals := 86 } : Room) (kPc D g [.ref (A 0), .int bi] H) (kI (PubQ D g b0 H A σ (SpReport σ bi))) 0 0 (kF b0) := by
  rcases br_dec σ bi with h | ⟨b, hb4, rfl⟩
  · exact c_X3_report_n l D g b0 H A σ dw hC bi h
  · exact c_X3_report_y l D g b0 H A σ dw hC b hb4
set_option maxHeartbeats 4000000 in
set_option maxRecDepth 100000 in
/-- versions -/
theorem c_X3_versions (l : Launch) (D : va_G) (g : Nat → ClassId) (b0 : Nat) (H : Heap) (A : Nat → Nat) (σ : SG) (dw : Nat → Int64) (hC : CR D g b0 A σ dw H)  : Met l yX3_versions wsX3_versions ({ frames := 0, cells := 0, slots := 0, locals := 0 } : Room) (kPc D g [.ref (A 0)] H) (kI (PubQ D g b0 H A σ (SpVersions σ))) 0 0 (kF b0) := by
  refine Met.ofW (cc := cX3_versions) (maxL := 1) (ret := (some .int)) (by decide) rfl ?_
  intro p e s m args below meth c s₁ B hml hv
  obtain ⟨rfl, hH, hK⟩ := hv
  have hx := B.exec
  have hb := B.bytes
  have hr := B.returns
  have hts := atoms_spec (ws := wsX3_versions) B.pre
  have hown : s.vm.findClass RX3 = some m.cls := findClass_of_methodNamed B.named
  have hlocks := B.notSynchronized
  rw [hH]
  have hl := lv_entry ([.ref (A 0)]) (n := 1) (Nat.le_of_ble_eq_true rfl)
  rw [lg_entry_eq]
  generalize (lg_sl ([.ref (A 0)]) ++ List.replicate (1 - (lg_sl ([.ref (A 0)])).length) Slot.unset).toArray = ls at hl ⊢
  have hl : lv_has ls 1 [(0, .ref (A 0))] := hl
  have hVB := hC.wf
  have hV4 : sV σ ≤ 400 := hVB.2.1
  have hB4 : sB σ ≤ 40 := hVB.2.2.2.1
  refine lv_aload_n hx hb dX3_versions_0 rfl (lv_at hl 0 rfl) ?_
  refine k_get (ci := 3) (C := RX3) (T := TX3) (N := 7) (v := .int (nI (sV σ))) hx hb hts (by decide +kernel) hown hK hC.o rfl 2 (by decide) rfl (hts (.fieldLink RX3 146 RX3 "versionCount" "I") (by decide +kernel)) rfl dX3_versions_1 ?_
  exact r_iI hx hb hr LB.nil (Nat.le_refl _) (Nat.le_refl _) ⟨A, σ, dw, hC, CFr.rf, rfl, rfl⟩ dX3_versions_4 hlocks
set_option maxHeartbeats 4000000 in
set_option maxRecDepth 100000 in
/-- branches -/
theorem c_X3_branches (l : Launch) (D : va_G) (g : Nat → ClassId) (b0 : Nat) (H : Heap) (A : Nat → Nat) (σ : SG) (dw : Nat → Int64) (hC : CR D g b0 A σ dw H)  : Met l yX3_branches wsX3_branches ({ frames := 0, cells := 0, slots := 0, locals := 0 } : Room) (kPc D g [.ref (A 0)] H) (kI (PubQ D g b0 H A σ (SpBranches σ))) 0 0 (kF b0) := by
  refine Met.ofW (cc := cX3_branches) (maxL := 1) (ret := (some .int)) (by decide) rfl ?_
  intro p e s m args below meth c s₁ B hml hv
  obtain ⟨rfl, hH, hK⟩ := hv
  have hx := B.exec
  have hb := B.bytes
  have hr := B.returns
  have hts := atoms_spec (ws := wsX3_branches) B.pre
  have hown : s.vm.findClass RX3 = some m.cls := findClass_of_methodNamed B.named
  have hlocks := B.notSynchronized
  rw [hH]
  have hl := lv_entry ([.ref (A 0)]) (n := 1) (Nat.le_of_ble_eq_true rfl)
  rw [lg_entry_eq]
  generalize (lg_sl ([.ref (A 0)]) ++ List.replicate (1 - (lg_sl ([.ref (A 0)])).length) Slot.unset).toArray = ls at hl ⊢
  have hl : lv_has ls 1 [(0, .ref (A 0))] := hl
  have hVB := hC.wf
  have hV4 : sV σ ≤ 400 := hVB.2.1
  have hB4 : sB σ ≤ 40 := hVB.2.2.2.1
  refine lv_aload_n hx hb dX3_branches_0 rfl (lv_at hl 0 rfl) ?_
  refine k_get (ci := 3) (C := RX3) (T := TX3) (N := 7) (v := .int (nI (sB σ))) hx hb hts (by decide +kernel) hown hK hC.o rfl 3 (by decide) rfl (hts (.fieldLink RX3 46 RX3 "branchCount" "I") (by decide +kernel)) rfl dX3_branches_1 ?_
  exact r_iI hx hb hr LB.nil (Nat.le_refl _) (Nat.le_refl _) ⟨A, σ, dw, hC, CFr.rf, rfl, rfl⟩ dX3_branches_4 hlocks
set_option maxHeartbeats 4000000 in
set_option maxRecDepth 100000 in
/-- history -/
theorem c_X3_history (l : Launch) (D : va_G) (g : Nat → ClassId) (b0 : Nat) (H : Heap) (A : Nat → Nat) (σ : SG) (dw : Nat → Int64) (hC : CR D g b0 A σ dw H) (ti ix : Int32) : Met l yX3_history wsX3_history ({ frames := 3, cells := 0, slots := 0, locals := 63 } : Room) (kPc D g [.ref (A 0), .int (ti), .int (ix)] H) (kI (PubQ D g b0 H A σ (SpHistory σ ti ix))) 0 0 (kF b0) := by
  refine Met.ofW (cc := cX3_history) (maxL := 6) (ret := (some .int)) (by decide) rfl ?_
  intro p e s m args below meth c s₁ B hml hv
  obtain ⟨rfl, hH, hK⟩ := hv
  have hx := B.exec
  have hb := B.bytes
  have hr := B.returns
  have hts := atoms_spec (ws := wsX3_history) B.pre
  have hown : s.vm.findClass RX3 = some m.cls := findClass_of_methodNamed B.named
  have hlocks := B.notSynchronized
  rw [hH]
  have hl := lv_entry ([.ref (A 0), .int (ti), .int (ix)]) (n := 6) (Nat.le_of_ble_eq_true rfl)
  rw [lg_entry_eq]
  generalize (lg_sl ([.ref (A 0), .int (ti), .int (ix)]) ++ List.replicate (6 - (lg_sl ([.ref (A 0), .int (ti), .int (ix)])).length) Slot.unset).toArray = ls at hl ⊢
  have hl : lv_has ls 6 [(0, .ref (A 0)), (1, .int (ti)), (2, .int (ix))] := hl
  have hVB := hC.wf
  have hV4 : sV σ ≤ 400 := hVB.2.1
  have hB4 : sB σ ≤ 40 := hVB.2.2.2.1
  refine lv_iload_n hx hb dX3_history_0 rfl (lv_at hl 1 rfl) ?_
  refine k_callX (va_runS (As := [.int (ti)]) (rest := []) ⟨hx, hb, hml, hown, hts⟩ (c_X3_isTriple l D g H ti) (va_cwS 1 hts gX3_history_X3_isTriple rfl rfl rfl (by decide +kernel) ⟨Nat.le_of_ble_eq_true rfl, Nat.le_of_ble_eq_true rfl⟩) ⟨kPc_blind, fun U hU hW => kPc_at hK hU hW⟩ rfl rfl hl.1 rfl (lv_room (Nat.le_of_ble_eq_true rfl)) dX3_history_1 ⟨Nat.le_of_ble_eq_true rfl, Nat.le_of_ble_eq_true rfl⟩) ?_
  refine z_if_eq (tgt := 11) hx hb dX3_history_4 (by decide) (fun c_778 => ?_) (fun c_778 => ?_)
  · skip
    refine lv_bipush (v := (-2)) hx hb dX3_history_11 (by decide +kernel) ?_
    exact r_iI hx hb hr LB.nil (Nat.le_refl _) (Nat.le_refl _) ⟨A, σ, dw, hC, CFr.rf, rfl, Or.inl ⟨Or.inl c_778, rfl⟩⟩ dX3_history_13 hlocks
  · skip
    refine lv_iload_n hx hb dX3_history_7 rfl (lv_at hl 2 rfl) ?_
    refine lv_if_ge (tgt := 14) hx hb dX3_history_8 (by decide) (fun c_779 => ?_) (fun c_779 => ?_)
    · skip
      refine lv_iconst (v := nI 0) hx hb dX3_history_14 (by decide +kernel) ?_
      refine lv_istore_n (lv' := [(3, .int (nI 0)), (0, .ref (A 0)), (1, .int (ti)), (2, .int (ix))]) hx hb dX3_history_15 rfl hl (by decide) rfl (fun ls hl => ?_)
      refine lv_iconst (v := nI 0) hx hb dX3_history_16 (by decide +kernel) ?_
      refine lv_istore (lv' := [(4, .int (nI 0)), (3, .int (nI 0)), (0, .ref (A 0)), (1, .int (ti)), (2, .int (ix))]) hx hb dX3_history_17 hl (by decide) rfl (fun ls hl => ?_)
      obtain ⟨t, ht, rfl⟩ := isTb_ex c_778
      have loop : ∀ (N i : Nat), 400 < i + N → i ≤ 400 → (∀ k, k < i → k < sV σ → hisP σ t k = true → ¬ nI (cnt (hisP σ t) k) = ix) → ∀ ls, lv_has ls 6 [(4, .int (nI i)), (3, .int (nI (cnt (hisP0 σ t) i))), (0, .ref (A 0)), (1, .int (nI t)), (2, .int ix)] → W p l e (headSpec wsX3_history ({ frames := 3, cells := 0, slots := 0, locals := 63 } : Room)).room s m ([.ref (A 0), .int (nI t), .int (ix)] : List Value).toArray below meth c H [] 0 0 (MQ below (kI (PubQ D g b0 H A σ (SpHistory σ (nI t) ix))) ([.ref (A 0), .int (nI t), .int (ix)] : List Value).toArray s 0 0 (kF b0)) (F0 m 19 ls []) := by
        intro N
        induction N with
        | zero => intro i h0 h1; omega
        | succ N ih =>
          intro i hN hi hv ls hl
          have hcl := cnt_le (hisP0 σ t) i
          refine lv_iload hx hb dX3_history_19 (lv_at hl 0 rfl) ?_
          refine lv_sipush (v := nI 400) hx hb dX3_history_21 (by decide +kernel) ?_
          refine n_icmp_ge (tgt := 75) hx hb dX3_history_24 (by decide) (by omega) (by omega) (fun c_780 => ?_) (fun c_780 => ?_)
          · skip
            refine lv_bipush (v := (-2)) hx hb dX3_history_75 (by decide +kernel) ?_
            exact r_iI hx hb hr LB.nil (Nat.le_refl _) (Nat.le_refl _) ⟨A, σ, dw, hC, CFr.rf, rfl, Or.inr ⟨t, ht, rfl, Int32.not_lt.mpr c_779, Or.inr ⟨fun k hk => hv k (by omega) hk, rfl⟩⟩⟩ dX3_history_77 hlocks
          · skip
            refine lv_aload_n hx hb dX3_history_27 rfl (lv_at hl 2 rfl) ?_
            refine lv_iload hx hb dX3_history_28 (lv_at hl 0 rfl) ?_
            by_cases hiv : i < sV σ
            · skip
              refine k_callX (va_runV (As := [.int (nI i)]) (rest := []) ⟨hx, hb, hml, hown, hts⟩ (c_X3_versionAt_y l D g b0 H A σ dw hC i hiv) (cwV 1 hts gX3_history_X3_versionAt rfl rfl rfl (by decide +kernel) ⟨Nat.le_of_ble_eq_true rfl, Nat.le_of_ble_eq_true rfl⟩) ⟨kPc_blind, k_recv hK hC.o rfl, fun U hU hW => kPc_at hK hU hW⟩ rfl rfl hl.1 rfl (lv_room (Nat.le_of_ble_eq_true rfl)) dX3_history_30 ⟨Nat.le_of_ble_eq_true rfl, Nat.le_of_ble_eq_true rfl⟩) ?_
              refine lv_astore (lv' := [(5, .ref (A (16 + 4 * i))), (4, .int (nI i)), (3, .int (nI (cnt (hisP0 σ t) i))), (0, .ref (A 0)), (1, .int (nI t)), (2, .int (ix))]) hx hb dX3_history_33 hl (by decide) rfl (fun ls hl => ?_)
              refine lv_aload hx hb dX3_history_35 (lv_at hl 0 rfl) ?_
              refine lv_ifnull hx hb dX3_history_37 ?_
              rcases hse : sS σ i with _ | p2
              · skip
                refine lv_aload hx hb dX3_history_40 (lv_at hl 0 rfl) ?_
                refine k_getN (ci := 2) (C := RX2) (T := TX2) (N := 5) (v := .null) hx hb hts (by decide +kernel) hown hK (hC.verS0 hiv hse) rfl 2 (by decide) rfl (List.mem_of_getElem? (i := 2) rfl) rfl dX3_history_42 ?_
                refine lv_ifnonnullN hx hb dX3_history_45 ?_
                refine lv_aload_n hx hb dX3_history_48 rfl (lv_at hl 3 rfl) ?_
                refine lv_aload hx hb dX3_history_49 (lv_at hl 0 rfl) ?_
                refine lv_iload_n hx hb dX3_history_51 rfl (lv_at hl 4 rfl) ?_
                refine k_callX (va_runV (As := [.ref (A (16 + 4 * i)), .int (nI t)]) (rest := []) ⟨hx, hb, hml, hown, hts⟩ (c_X3_changes l D g b0 H A σ dw hC i hiv t ht) (cwV 2 hts gX3_history_X3_changes rfl rfl rfl (by decide +kernel) ⟨Nat.le_of_ble_eq_true rfl, Nat.le_of_ble_eq_true rfl⟩) ⟨kPc_blind, k_recv hK hC.o rfl, fun U hU hW => kPc_at hK hU hW⟩ rfl rfl hl.1 rfl (lv_room (Nat.le_of_ble_eq_true rfl)) dX3_history_52 ⟨Nat.le_of_ble_eq_true rfl, Nat.le_of_ble_eq_true rfl⟩) ?_
                refine z_if_eq (tgt := 69) hx hb dX3_history_55 (by decide) (fun c_781 => ?_) (fun c_781 => ?_)
                · skip
                  refine lv_iinc (v := nI (i + 1)) (lv' := [(4, .int (nI (i + 1))), (5, .ref (A (16 + 4 * i))), (3, .int (nI (cnt (hisP0 σ t) i))), (0, .ref (A 0)), (1, .int (nI t)), (2, .int (ix))]) hx hb dX3_history_69 hl (k := 1) rfl (nI_add (i) 1) (by decide) rfl (fun ls hl => ?_)
                  refine lv_goto (tgt := 19) hx hb dX3_history_72 (by decide) ?_
                  have hhp : hisP σ t i = false := by unfold hisP; rw [c_781, Bool.and_false]
                  have hcn : cnt (hisP0 σ t) (i + 1) = cnt (hisP0 σ t) i := cnt_f (by unfold hisP0; rw [hhp, Bool.and_false])
                  refine ih (i + 1) (by omega) (by omega) (fun k hk hk2 hk3 => by
                    rcases Nat.lt_or_ge k i with z | z
                    · exact hv k z hk2 hk3
                    · rw [show k = i by omega, hhp] at hk3; cases hk3) ls ?_
                  rw [hcn]
                  exact (lv_sub hl [0, 2, 3, 4, 5] rfl)
                · skip
                  refine lv_iload_n hx hb dX3_history_58 rfl (lv_at hl 2 rfl) ?_
                  refine lv_iload_n hx hb dX3_history_59 rfl (lv_at hl 5 rfl) ?_
                  refine lv_icmp_ne (tgt := 66) hx hb dX3_history_60 (by decide) (fun c_782 => ?_) (fun c_782 => ?_)
                  · skip
                    refine lv_iinc (v := nI (cnt (hisP0 σ t) i + 1)) (lv' := [(3, .int (nI (cnt (hisP0 σ t) i + 1))), (5, .ref (A (16 + 4 * i))), (4, .int (nI i)), (0, .ref (A 0)), (1, .int (nI t)), (2, .int (ix))]) hx hb dX3_history_66 hl (k := 2) rfl (nI_add (cnt (hisP0 σ t) i) 1) (by decide) rfl (fun ls hl => ?_)
                    refine lv_iinc (v := nI (i + 1)) (lv' := [(4, .int (nI (i + 1))), (3, .int (nI (cnt (hisP0 σ t) i + 1))), (5, .ref (A (16 + 4 * i))), (0, .ref (A 0)), (1, .int (nI t)), (2, .int (ix))]) hx hb dX3_history_69 hl (k := 2) rfl (nI_add (i) 1) (by decide) rfl (fun ls hl => ?_)
                    refine lv_goto (tgt := 19) hx hb dX3_history_72 (by decide) ?_
                    have hhp : hisP σ t i = true := by unfold hisP; rw [hse, c_781]; rfl
                    have hcn : cnt (hisP0 σ t) (i + 1) = cnt (hisP0 σ t) i + 1 := cnt_t (by unfold hisP0; rw [hhp, decide_eq_true hiv]; rfl)
                    have hce : cnt (hisP σ t) i = cnt (hisP0 σ t) i := cnt_congr (fun j hj => (hisP0_in (by omega)).symm)
                    refine ih (i + 1) (by omega) (by omega) (fun k hk hk2 hk3 => by
                      rcases Nat.lt_or_ge k i with z | z
                      · exact hv k z hk2 hk3
                      · rw [show k = i by omega, hce]; exact c_782) ls ?_
                    rw [hcn]
                    exact (lv_sub hl [0, 1, 3, 4, 5] rfl)
                  · skip
                    refine lv_iload hx hb dX3_history_63 (lv_at hl 1 rfl) ?_
                    have hhp : hisP σ t i = true := by unfold hisP; rw [hse, c_781]; rfl
                    have hce : cnt (hisP σ t) i = cnt (hisP0 σ t) i := cnt_congr (fun j hj => (hisP0_in (by omega)).symm)
                    exact r_iI hx hb hr LB.nil (Nat.le_refl _) (Nat.le_refl _) ⟨A, σ, dw, hC, CFr.rf, rfl, Or.inr ⟨t, ht, rfl, Int32.not_lt.mpr c_779, Or.inl ⟨i, hiv, hhp, by rw [hce]; exact c_782, rfl⟩⟩⟩ dX3_history_65 hlocks
              · skip
                refine lv_aload hx hb dX3_history_40 (lv_at hl 0 rfl) ?_
                refine k_getN (ci := 2) (C := RX2) (T := TX2) (N := 5) (v := .ref (A (16 + 4 * p2))) hx hb hts (by decide +kernel) hown hK (hC.verS1 hiv hse) rfl 2 (by decide) rfl (List.mem_of_getElem? (i := 2) rfl) rfl dX3_history_42 ?_
                refine lv_ifnonnull (tgt := 69) hx hb dX3_history_45 (by decide) ?_
                refine lv_iinc (v := nI (i + 1)) (lv' := [(4, .int (nI (i + 1))), (5, .ref (A (16 + 4 * i))), (3, .int (nI (cnt (hisP0 σ t) i))), (0, .ref (A 0)), (1, .int (nI t)), (2, .int (ix))]) hx hb dX3_history_69 hl (k := 1) rfl (nI_add (i) 1) (by decide) rfl (fun ls hl => ?_)
                refine lv_goto (tgt := 19) hx hb dX3_history_72 (by decide) ?_
                have hhp : hisP σ t i = false := by unfold hisP; rw [hse]; rfl
                have hcn : cnt (hisP0 σ t) (i + 1) = cnt (hisP0 σ t) i := cnt_f (by unfold hisP0; rw [hhp, Bool.and_false])
                refine ih (i + 1) (by omega) (by omega) (fun k hk hk2 hk3 => by
                  rcases Nat.lt_or_ge k i with z | z
                  · exact hv k z hk2 hk3
                  · rw [show k = i by omega, hhp] at hk3; cases hk3) ls ?_
                rw [hcn]
                exact (lv_sub hl [0, 2, 3, 4, 5] rfl)
            · skip
              refine k_callX (va_runV (As := [.int (nI i)]) (rest := []) ⟨hx, hb, hml, hown, hts⟩ (c_X3_versionAt_n l D g b0 H A σ dw hC (nI i) (fun k hk e => hiv (by have := (nI_eq (by omega) (by omega)).mp e; omega))) (cwV 1 hts gX3_history_X3_versionAt rfl rfl rfl (by decide +kernel) ⟨Nat.le_of_ble_eq_true rfl, Nat.le_of_ble_eq_true rfl⟩) ⟨kPc_blind, k_recv hK hC.o rfl, fun U hU hW => kPc_at hK hU hW⟩ rfl rfl hl.1 rfl (lv_room (Nat.le_of_ble_eq_true rfl)) dX3_history_30 ⟨Nat.le_of_ble_eq_true rfl, Nat.le_of_ble_eq_true rfl⟩) ?_
              refine lv_astoreN (lv' := [(5, .null), (4, .int (nI i)), (3, .int (nI (cnt (hisP0 σ t) i))), (0, .ref (A 0)), (1, .int (nI t)), (2, .int (ix))]) hx hb dX3_history_33 hl (by decide) rfl (fun ls hl => ?_)
              refine lv_aloadN hx hb dX3_history_35 (lv_at hl 0 rfl) ?_
              refine lv_ifnullN (tgt := 69) hx hb dX3_history_37 (by decide) ?_
              refine lv_iinc (v := nI (i + 1)) (lv' := [(4, .int (nI (i + 1))), (5, .null), (3, .int (nI (cnt (hisP0 σ t) i))), (0, .ref (A 0)), (1, .int (nI t)), (2, .int (ix))]) hx hb dX3_history_69 hl (k := 1) rfl (nI_add (i) 1) (by decide) rfl (fun ls hl => ?_)
              refine lv_goto (tgt := 19) hx hb dX3_history_72 (by decide) ?_
              have hcn : cnt (hisP0 σ t) (i + 1) = cnt (hisP0 σ t) i := cnt_f (by unfold hisP0; rw [decide_eq_false hiv, Bool.false_and])
              refine ih (i + 1) (by omega) (by omega) (fun k hk hk2 => hv k (by omega) hk2) ls ?_
              rw [hcn]
              exact (lv_sub hl [0, 2, 3, 4, 5] rfl)
      exact loop 401 0 (by omega) (by omega) (fun k hk => absurd hk (Nat.not_lt_zero _)) ls (lv_sub hl [0, 1, 2, 3, 4] rfl)
    · skip
      refine lv_bipush (v := (-2)) hx hb dX3_history_11 (by decide +kernel) ?_
      exact r_iI hx hb hr LB.nil (Nat.le_refl _) (Nat.le_refl _) ⟨A, σ, dw, hC, CFr.rf, rfl, Or.inl ⟨Or.inr (Int32.not_le.mp c_779), rfl⟩⟩ dX3_history_13 hlocks
set_option maxHeartbeats 4000000 in
set_option maxRecDepth 100000 in
/-- list_n -/
theorem c_X3_list_n (l : Launch) (D : va_G) (g : Nat → ClassId) (b0 : Nat) (H : Heap) (A : Nat → Nat) (σ : SG) (dw : Nat → Int64) (hC : CR D g b0 A σ dw H) (bi ix : Int32) (hN : BrN σ bi) : Met l yX3_list wsX3_list ({ frames := 4, cells := 0, slots := 0, locals := 89 } : Room) (kPc D g [.ref (A 0), .int (bi), .int (ix)] H) (kI (PubQ D g b0 H A σ (SpSame σ))) 0 0 (kF b0) := by
  refine Met.ofW (cc := cX3_list) (maxL := 5) (ret := (some .int)) (by decide) rfl ?_
  intro p e s m args below meth c s₁ B hml hv
  obtain ⟨rfl, hH, hK⟩ := hv
  have hx := B.exec
  have hb := B.bytes
  have hr := B.returns
  have hts := atoms_spec (ws := wsX3_list) B.pre
  have hown : s.vm.findClass RX3 = some m.cls := findClass_of_methodNamed B.named
  have hlocks := B.notSynchronized
  rw [hH]
  have hl := lv_entry ([.ref (A 0), .int (bi), .int (ix)]) (n := 5) (Nat.le_of_ble_eq_true rfl)
  rw [lg_entry_eq]
  generalize (lg_sl ([.ref (A 0), .int (bi), .int (ix)]) ++ List.replicate (5 - (lg_sl ([.ref (A 0), .int (bi), .int (ix)])).length) Slot.unset).toArray = ls at hl ⊢
  have hl : lv_has ls 5 [(0, .ref (A 0)), (1, .int (bi)), (2, .int (ix))] := hl
  have hVB := hC.wf
  have hV4 : sV σ ≤ 400 := hVB.2.1
  have hB4 : sB σ ≤ 40 := hVB.2.2.2.1
  refine lv_aload_n hx hb dX3_list_0 rfl (lv_at hl 0 rfl) ?_
  refine lv_iload_n hx hb dX3_list_1 rfl (lv_at hl 1 rfl) ?_
  refine k_callX (va_runV (As := [.int (bi)]) (rest := []) ⟨hx, hb, hml, hown, hts⟩ (c_X3_branchAt_n l D g b0 H A σ dw hC bi hN) (cwV 1 hts gX3_list_X3_branchAt rfl rfl rfl (by decide +kernel) ⟨Nat.le_of_ble_eq_true rfl, Nat.le_of_ble_eq_true rfl⟩) ⟨kPc_blind, k_recv hK hC.o rfl, fun U hU hW => kPc_at hK hU hW⟩ rfl rfl hl.1 rfl (lv_room (Nat.le_of_ble_eq_true rfl)) dX3_list_2 ⟨Nat.le_of_ble_eq_true rfl, Nat.le_of_ble_eq_true rfl⟩) ?_
  refine lv_astore_nN (lv' := [(3, .null), (0, .ref (A 0)), (1, .int (bi)), (2, .int (ix))]) hx hb dX3_list_5 rfl hl (by decide) rfl (fun ls hl => ?_)
  refine lv_aload_nN hx hb dX3_list_6 rfl (lv_at hl 0 rfl) ?_
  refine lv_ifnonnullN hx hb dX3_list_7 ?_
  refine lv_iconst (v := (-1)) hx hb dX3_list_10 (by decide +kernel) ?_
  exact r_iI hx hb hr LB.nil (Nat.le_refl _) (Nat.le_refl _) ⟨A, σ, dw, hC, CFr.rf, rfl⟩ dX3_list_11 hlocks
set_option maxHeartbeats 4000000 in
set_option maxRecDepth 100000 in
/-- list_y -/
theorem c_X3_list_y (l : Launch) (D : va_G) (g : Nat → ClassId) (b0 : Nat) (H : Heap) (A : Nat → Nat) (σ : SG) (dw : Nat → Int64) (hC : CR D g b0 A σ dw H) (b : Nat) (hb4 : b < sB σ) (ix : Int32) : Met l yX3_list wsX3_list ({ frames := 4, cells := 0, slots := 0, locals := 89 } : Room) (kPc D g [.ref (A 0), .int (nI b), .int (ix)] H) (kI (PubQ D g b0 H A σ (SpSame σ))) 0 0 (kF b0) := by
  refine Met.ofW (cc := cX3_list) (maxL := 5) (ret := (some .int)) (by decide) rfl ?_
  intro p e s m args below meth c s₁ B hml hv
  obtain ⟨rfl, hH, hK⟩ := hv
  have hx := B.exec
  have hb := B.bytes
  have hr := B.returns
  have hts := atoms_spec (ws := wsX3_list) B.pre
  have hown : s.vm.findClass RX3 = some m.cls := findClass_of_methodNamed B.named
  have hlocks := B.notSynchronized
  rw [hH]
  have hl := lv_entry ([.ref (A 0), .int (nI b), .int (ix)]) (n := 5) (Nat.le_of_ble_eq_true rfl)
  rw [lg_entry_eq]
  generalize (lg_sl ([.ref (A 0), .int (nI b), .int (ix)]) ++ List.replicate (5 - (lg_sl ([.ref (A 0), .int (nI b), .int (ix)])).length) Slot.unset).toArray = ls at hl ⊢
  have hl : lv_has ls 5 [(0, .ref (A 0)), (1, .int (nI b)), (2, .int (ix))] := hl
  have hVB := hC.wf
  have hV4 : sV σ ≤ 400 := hVB.2.1
  have hB4 : sB σ ≤ 40 := hVB.2.2.2.1
  have hhd := hVB.2.2.2.2.1 b hb4
  refine lv_aload_n hx hb dX3_list_0 rfl (lv_at hl 0 rfl) ?_
  refine lv_iload_n hx hb dX3_list_1 rfl (lv_at hl 1 rfl) ?_
  refine k_callX (va_runV (As := [.int (nI b)]) (rest := []) ⟨hx, hb, hml, hown, hts⟩ (c_X3_branchAt_y l D g b0 H A σ dw hC b hb4) (cwV 1 hts gX3_list_X3_branchAt rfl rfl rfl (by decide +kernel) ⟨Nat.le_of_ble_eq_true rfl, Nat.le_of_ble_eq_true rfl⟩) ⟨kPc_blind, k_recv hK hC.o rfl, fun U hU hW => kPc_at hK hU hW⟩ rfl rfl hl.1 rfl (lv_room (Nat.le_of_ble_eq_true rfl)) dX3_list_2 ⟨Nat.le_of_ble_eq_true rfl, Nat.le_of_ble_eq_true rfl⟩) ?_
  refine lv_astore_n (lv' := [(3, .ref (A (2000 + b))), (0, .ref (A 0)), (1, .int (nI b)), (2, .int (ix))]) hx hb dX3_list_5 rfl hl (by decide) rfl (fun ls hl => ?_)
  refine lv_aload_n hx hb dX3_list_6 rfl (lv_at hl 0 rfl) ?_
  refine lv_ifnonnull (tgt := 12) hx hb dX3_list_7 (by decide) ?_
  refine lv_aload_n hx hb dX3_list_12 rfl (lv_at hl 0 rfl) ?_
  refine k_getN (ci := 0) (C := RX0) (T := TX0) (N := 1) (v := .ref (A (16 + 4 * (sH σ b)))) hx hb hts (by decide +kernel) hown hK (hC.ba hb4) rfl 0 (by decide) rfl (List.mem_of_getElem? (i := 4) rfl) rfl dX3_list_13 ?_
  refine k_getN (ci := 2) (C := RX2) (T := TX2) (N := 5) (v := .ref (A (17 + 4 * (sH σ b)))) hx hb hts (by decide +kernel) hown hK (hC.ver hhd) rfl 3 (by decide) rfl (List.mem_of_getElem? (i := 3) rfl) rfl dX3_list_16 ?_
  refine lv_iload_n hx hb dX3_list_19 rfl (lv_at hl 3 rfl) ?_
  refine k_callS (va_runVN (As := [.int (ix)]) (rest := []) ⟨hx, hb, hml, hown, hts⟩ (c_X1_tripleAt_w l D g H (A (17 + 4 * (sH σ b))) (A (18 + 4 * (sH σ b))) (sW σ (sH σ b)) (hC.ts hhd) (hC.tw hhd) ix) ⟨va_cnB 1 hts gX3_list_X1_tripleAt_n118 rfl rfl rfl (hK.2.1 (RX3, 118, yX1_tripleAt) (List.mem_of_getElem? (i := 18) rfl)) (hts (.initialized RX1) (by decide +kernel)) (by decide +kernel) ⟨Nat.le_of_ble_eq_true rfl, Nat.le_of_ble_eq_true rfl⟩, hts (.instanceMethod yX1_tripleAt) (by decide +kernel), hts (.selects RX1 yX1_tripleAt yX1_tripleAt) (by decide +kernel)⟩ ⟨kPc_blind, k_recv hK (hC.ts hhd) rfl, fun U hU hW => kPc_at hK hU hW⟩ rfl rfl hl.1 rfl (lv_room (Nat.le_of_ble_eq_true rfl)) dX3_list_20 ⟨Nat.le_of_ble_eq_true rfl, Nat.le_of_ble_eq_true rfl⟩) (fun rt hrt => ?_)
  refine lv_istore (lv' := [(4, .int (rt)), (3, .ref (A (2000 + b))), (0, .ref (A 0)), (1, .int (nI b)), (2, .int (ix))]) hx hb dX3_list_23 hl (by decide) rfl (fun ls hl => ?_)
  refine lv_iload hx hb dX3_list_25 (lv_at hl 0 rfl) ?_
  refine lv_iconst (v := (-1)) hx hb dX3_list_27 (by decide +kernel) ?_
  refine lv_icmp_ne (tgt := 36) hx hb dX3_list_28 (by decide) (fun c_783 => ?_) (fun c_783 => ?_)
  · skip
    refine lv_iload hx hb dX3_list_36 (lv_at hl 0 rfl) ?_
    exact r_iI hx hb hr LB.nil (Nat.le_refl _) (Nat.le_refl _) ⟨A, σ, dw, hC, CFr.rf, rfl⟩ dX3_list_38 hlocks
  · skip
    refine lv_bipush (v := (-2)) hx hb dX3_list_31 (by decide +kernel) ?_
    refine lv_goto (tgt := 38) hx hb dX3_list_33 (by decide) ?_
    exact r_iI hx hb hr LB.nil (Nat.le_refl _) (Nat.le_refl _) ⟨A, σ, dw, hC, CFr.rf, rfl⟩ dX3_list_38 hlocks
theorem c_X3_list (l : Launch) (D : va_G) (g : Nat → ClassId) (b0 : Nat) (H : Heap) (A : Nat → Nat) (σ : SG) (dw : Nat → Int64) (hC : CR D g b0 A σ dw H) (bi ix : Int32) : Met l yX3_list wsX3_list ({ frames := 4, cells := 0, slots := 0, locals := 89 } : Room) (kPc D g [.ref (A 0), .int bi, .int ix] H) (kI (PubQ D g b0 H A σ (SpSame σ))) 0 0 (kF b0) := by
  rcases br_dec σ bi with h | ⟨b, hb4, rfl⟩
  · exact c_X3_list_n l D g b0 H A σ dw hC bi ix h
  · exact c_X3_list_y l D g b0 H A σ dw hC b hb4 ix
set_option maxHeartbeats 4000000 in
set_option maxRecDepth 100000 in
/-- patch_n1 -/
theorem c_X3_patch_n1 (l : Launch) (D : va_G) (g : Nat → ClassId) (b0 : Nat) (H : Heap) (A : Nat → Nat) (σ : SG) (dw : Nat → Int64) (hC : CR D g b0 A σ dw H) (fi ti ix : Int32) (hN : VeN σ fi) : Met l yX3_patch wsX3_patch ({ frames := 4, cells := 0, slots := 0, locals := 89 } : Room) (kPc D g [.ref (A 0), .int (fi), .int (ti), .int (ix)] H) (kI (PubQ D g b0 H A σ (SpSame σ))) 0 0 (kF b0) := by
  refine Met.ofW (cc := cX3_patch) (maxL := 7) (ret := (some .int)) (by decide) rfl ?_
  intro p e s m args below meth c s₁ B hml hv
  obtain ⟨rfl, hH, hK⟩ := hv
  have hx := B.exec
  have hb := B.bytes
  have hr := B.returns
  have hts := atoms_spec (ws := wsX3_patch) B.pre
  have hown : s.vm.findClass RX3 = some m.cls := findClass_of_methodNamed B.named
  have hlocks := B.notSynchronized
  rw [hH]
  have hl := lv_entry ([.ref (A 0), .int (fi), .int (ti), .int (ix)]) (n := 7) (Nat.le_of_ble_eq_true rfl)
  rw [lg_entry_eq]
  generalize (lg_sl ([.ref (A 0), .int (fi), .int (ti), .int (ix)]) ++ List.replicate (7 - (lg_sl ([.ref (A 0), .int (fi), .int (ti), .int (ix)])).length) Slot.unset).toArray = ls at hl ⊢
  have hl : lv_has ls 7 [(0, .ref (A 0)), (1, .int (fi)), (2, .int (ti)), (3, .int (ix))] := hl
  have hVB := hC.wf
  have hV4 : sV σ ≤ 400 := hVB.2.1
  have hB4 : sB σ ≤ 40 := hVB.2.2.2.1
  refine lv_aload_n hx hb dX3_patch_0 rfl (lv_at hl 0 rfl) ?_
  refine lv_iload_n hx hb dX3_patch_1 rfl (lv_at hl 1 rfl) ?_
  refine k_callX (va_runV (As := [.int (fi)]) (rest := []) ⟨hx, hb, hml, hown, hts⟩ (c_X3_versionAt_n l D g b0 H A σ dw hC fi hN) (cwV 1 hts gX3_patch_X3_versionAt rfl rfl rfl (by decide +kernel) ⟨Nat.le_of_ble_eq_true rfl, Nat.le_of_ble_eq_true rfl⟩) ⟨kPc_blind, k_recv hK hC.o rfl, fun U hU hW => kPc_at hK hU hW⟩ rfl rfl hl.1 rfl (lv_room (Nat.le_of_ble_eq_true rfl)) dX3_patch_2 ⟨Nat.le_of_ble_eq_true rfl, Nat.le_of_ble_eq_true rfl⟩) ?_
  refine lv_astoreN (lv' := [(4, .null), (0, .ref (A 0)), (1, .int (fi)), (2, .int (ti)), (3, .int (ix))]) hx hb dX3_patch_5 hl (by decide) rfl (fun ls hl => ?_)
  refine lv_aload_n hx hb dX3_patch_7 rfl (lv_at hl 1 rfl) ?_
  refine lv_iload_n hx hb dX3_patch_8 rfl (lv_at hl 3 rfl) ?_
  rcases ve_dec σ ti with hM | ⟨n2, hn2, rfl⟩
  · skip
    refine k_callX (va_runV (As := [.int (ti)]) (rest := []) ⟨hx, hb, hml, hown, hts⟩ (c_X3_versionAt_n l D g b0 H A σ dw hC ti hM) (cwV 1 hts gX3_patch_X3_versionAt rfl rfl rfl (by decide +kernel) ⟨Nat.le_of_ble_eq_true rfl, Nat.le_of_ble_eq_true rfl⟩) ⟨kPc_blind, k_recv hK hC.o rfl, fun U hU hW => kPc_at hK hU hW⟩ rfl rfl hl.1 rfl (lv_room (Nat.le_of_ble_eq_true rfl)) dX3_patch_9 ⟨Nat.le_of_ble_eq_true rfl, Nat.le_of_ble_eq_true rfl⟩) ?_
    refine lv_astoreN (lv' := [(5, .null), (4, .null), (0, .ref (A 0)), (1, .int (fi)), (2, .int (ti)), (3, .int (ix))]) hx hb dX3_patch_12 hl (by decide) rfl (fun ls hl => ?_)
    refine lv_aloadN hx hb dX3_patch_14 (lv_at hl 1 rfl) ?_
    refine lv_ifnullN (tgt := 24) hx hb dX3_patch_16 (by decide) ?_
    refine lv_iconst (v := (-1)) hx hb dX3_patch_24 (by decide +kernel) ?_
    exact r_iI hx hb hr LB.nil (Nat.le_refl _) (Nat.le_refl _) ⟨A, σ, dw, hC, CFr.rf, rfl⟩ dX3_patch_25 hlocks
  · skip
    refine k_callX (va_runV (As := [.int (nI n2)]) (rest := []) ⟨hx, hb, hml, hown, hts⟩ (c_X3_versionAt_y l D g b0 H A σ dw hC n2 hn2) (cwV 1 hts gX3_patch_X3_versionAt rfl rfl rfl (by decide +kernel) ⟨Nat.le_of_ble_eq_true rfl, Nat.le_of_ble_eq_true rfl⟩) ⟨kPc_blind, k_recv hK hC.o rfl, fun U hU hW => kPc_at hK hU hW⟩ rfl rfl hl.1 rfl (lv_room (Nat.le_of_ble_eq_true rfl)) dX3_patch_9 ⟨Nat.le_of_ble_eq_true rfl, Nat.le_of_ble_eq_true rfl⟩) ?_
    refine lv_astore (lv' := [(5, .ref (A (16 + 4 * n2))), (4, .null), (0, .ref (A 0)), (1, .int (fi)), (2, .int (nI n2)), (3, .int (ix))]) hx hb dX3_patch_12 hl (by decide) rfl (fun ls hl => ?_)
    refine lv_aloadN hx hb dX3_patch_14 (lv_at hl 1 rfl) ?_
    refine lv_ifnullN (tgt := 24) hx hb dX3_patch_16 (by decide) ?_
    refine lv_iconst (v := (-1)) hx hb dX3_patch_24 (by decide +kernel) ?_
    exact r_iI hx hb hr LB.nil (Nat.le_refl _) (Nat.le_refl _) ⟨A, σ, dw, hC, CFr.rf, rfl⟩ dX3_patch_25 hlocks
set_option maxHeartbeats 4000000 in
set_option maxRecDepth 100000 in
/-- patch_n2 -/
theorem c_X3_patch_n2 (l : Launch) (D : va_G) (g : Nat → ClassId) (b0 : Nat) (H : Heap) (A : Nat → Nat) (σ : SG) (dw : Nat → Int64) (hC : CR D g b0 A σ dw H) (n : Nat) (hn : n < sV σ) (ti ix : Int32) (hN : VeN σ ti) : Met l yX3_patch wsX3_patch ({ frames := 4, cells := 0, slots := 0, locals := 89 } : Room) (kPc D g [.ref (A 0), .int (nI n), .int (ti), .int (ix)] H) (kI (PubQ D g b0 H A σ (SpSame σ))) 0 0 (kF b0) := by
  refine Met.ofW (cc := cX3_patch) (maxL := 7) (ret := (some .int)) (by decide) rfl ?_
  intro p e s m args below meth c s₁ B hml hv
  obtain ⟨rfl, hH, hK⟩ := hv
  have hx := B.exec
  have hb := B.bytes
  have hr := B.returns
  have hts := atoms_spec (ws := wsX3_patch) B.pre
  have hown : s.vm.findClass RX3 = some m.cls := findClass_of_methodNamed B.named
  have hlocks := B.notSynchronized
  rw [hH]
  have hl := lv_entry ([.ref (A 0), .int (nI n), .int (ti), .int (ix)]) (n := 7) (Nat.le_of_ble_eq_true rfl)
  rw [lg_entry_eq]
  generalize (lg_sl ([.ref (A 0), .int (nI n), .int (ti), .int (ix)]) ++ List.replicate (7 - (lg_sl ([.ref (A 0), .int (nI n), .int (ti), .int (ix)])).length) Slot.unset).toArray = ls at hl ⊢
  have hl : lv_has ls 7 [(0, .ref (A 0)), (1, .int (nI n)), (2, .int (ti)), (3, .int (ix))] := hl
  have hVB := hC.wf
  have hV4 : sV σ ≤ 400 := hVB.2.1
  have hB4 : sB σ ≤ 40 := hVB.2.2.2.1
  refine lv_aload_n hx hb dX3_patch_0 rfl (lv_at hl 0 rfl) ?_
  refine lv_iload_n hx hb dX3_patch_1 rfl (lv_at hl 1 rfl) ?_
  refine k_callX (va_runV (As := [.int (nI n)]) (rest := []) ⟨hx, hb, hml, hown, hts⟩ (c_X3_versionAt_y l D g b0 H A σ dw hC n hn) (cwV 1 hts gX3_patch_X3_versionAt rfl rfl rfl (by decide +kernel) ⟨Nat.le_of_ble_eq_true rfl, Nat.le_of_ble_eq_true rfl⟩) ⟨kPc_blind, k_recv hK hC.o rfl, fun U hU hW => kPc_at hK hU hW⟩ rfl rfl hl.1 rfl (lv_room (Nat.le_of_ble_eq_true rfl)) dX3_patch_2 ⟨Nat.le_of_ble_eq_true rfl, Nat.le_of_ble_eq_true rfl⟩) ?_
  refine lv_astore (lv' := [(4, .ref (A (16 + 4 * n))), (0, .ref (A 0)), (1, .int (nI n)), (2, .int (ti)), (3, .int (ix))]) hx hb dX3_patch_5 hl (by decide) rfl (fun ls hl => ?_)
  refine lv_aload_n hx hb dX3_patch_7 rfl (lv_at hl 1 rfl) ?_
  refine lv_iload_n hx hb dX3_patch_8 rfl (lv_at hl 3 rfl) ?_
  refine k_callX (va_runV (As := [.int (ti)]) (rest := []) ⟨hx, hb, hml, hown, hts⟩ (c_X3_versionAt_n l D g b0 H A σ dw hC ti hN) (cwV 1 hts gX3_patch_X3_versionAt rfl rfl rfl (by decide +kernel) ⟨Nat.le_of_ble_eq_true rfl, Nat.le_of_ble_eq_true rfl⟩) ⟨kPc_blind, k_recv hK hC.o rfl, fun U hU hW => kPc_at hK hU hW⟩ rfl rfl hl.1 rfl (lv_room (Nat.le_of_ble_eq_true rfl)) dX3_patch_9 ⟨Nat.le_of_ble_eq_true rfl, Nat.le_of_ble_eq_true rfl⟩) ?_
  refine lv_astoreN (lv' := [(5, .null), (4, .ref (A (16 + 4 * n))), (0, .ref (A 0)), (1, .int (nI n)), (2, .int (ti)), (3, .int (ix))]) hx hb dX3_patch_12 hl (by decide) rfl (fun ls hl => ?_)
  refine lv_aload hx hb dX3_patch_14 (lv_at hl 1 rfl) ?_
  refine lv_ifnull hx hb dX3_patch_16 ?_
  refine lv_aloadN hx hb dX3_patch_19 (lv_at hl 0 rfl) ?_
  refine lv_ifnonnullN hx hb dX3_patch_21 ?_
  refine lv_iconst (v := (-1)) hx hb dX3_patch_24 (by decide +kernel) ?_
  exact r_iI hx hb hr LB.nil (Nat.le_refl _) (Nat.le_refl _) ⟨A, σ, dw, hC, CFr.rf, rfl⟩ dX3_patch_25 hlocks
set_option maxHeartbeats 4000000 in
set_option maxRecDepth 100000 in
/-- patch_y -/
theorem c_X3_patch_y (l : Launch) (D : va_G) (g : Nat → ClassId) (b0 : Nat) (H : Heap) (A : Nat → Nat) (σ : SG) (dw : Nat → Int64) (hC : CR D g b0 A σ dw H) (n n2 : Nat) (hn : n < sV σ) (hn2 : n2 < sV σ) (ix : Int32) : Met l yX3_patch wsX3_patch ({ frames := 4, cells := 0, slots := 0, locals := 89 } : Room) (kPc D g [.ref (A 0), .int (nI n), .int (nI n2), .int (ix)] H) (kI (PubQ D g b0 H A σ (SpSame σ))) 0 0 (kF b0) := by
  refine Met.ofW (cc := cX3_patch) (maxL := 7) (ret := (some .int)) (by decide) rfl ?_
  intro p e s m args below meth c s₁ B hml hv
  obtain ⟨rfl, hH, hK⟩ := hv
  have hx := B.exec
  have hb := B.bytes
  have hr := B.returns
  have hts := atoms_spec (ws := wsX3_patch) B.pre
  have hown : s.vm.findClass RX3 = some m.cls := findClass_of_methodNamed B.named
  have hlocks := B.notSynchronized
  rw [hH]
  have hl := lv_entry ([.ref (A 0), .int (nI n), .int (nI n2), .int (ix)]) (n := 7) (Nat.le_of_ble_eq_true rfl)
  rw [lg_entry_eq]
  generalize (lg_sl ([.ref (A 0), .int (nI n), .int (nI n2), .int (ix)]) ++ List.replicate (7 - (lg_sl ([.ref (A 0), .int (nI n), .int (nI n2), .int (ix)])).length) Slot.unset).toArray = ls at hl ⊢
  have hl : lv_has ls 7 [(0, .ref (A 0)), (1, .int (nI n)), (2, .int (nI n2)), (3, .int (ix))] := hl
  have hVB := hC.wf
  have hV4 : sV σ ≤ 400 := hVB.2.1
  have hB4 : sB σ ≤ 40 := hVB.2.2.2.1
  refine lv_aload_n hx hb dX3_patch_0 rfl (lv_at hl 0 rfl) ?_
  refine lv_iload_n hx hb dX3_patch_1 rfl (lv_at hl 1 rfl) ?_
  refine k_callX (va_runV (As := [.int (nI n)]) (rest := []) ⟨hx, hb, hml, hown, hts⟩ (c_X3_versionAt_y l D g b0 H A σ dw hC n hn) (cwV 1 hts gX3_patch_X3_versionAt rfl rfl rfl (by decide +kernel) ⟨Nat.le_of_ble_eq_true rfl, Nat.le_of_ble_eq_true rfl⟩) ⟨kPc_blind, k_recv hK hC.o rfl, fun U hU hW => kPc_at hK hU hW⟩ rfl rfl hl.1 rfl (lv_room (Nat.le_of_ble_eq_true rfl)) dX3_patch_2 ⟨Nat.le_of_ble_eq_true rfl, Nat.le_of_ble_eq_true rfl⟩) ?_
  refine lv_astore (lv' := [(4, .ref (A (16 + 4 * n))), (0, .ref (A 0)), (1, .int (nI n)), (2, .int (nI n2)), (3, .int (ix))]) hx hb dX3_patch_5 hl (by decide) rfl (fun ls hl => ?_)
  refine lv_aload_n hx hb dX3_patch_7 rfl (lv_at hl 1 rfl) ?_
  refine lv_iload_n hx hb dX3_patch_8 rfl (lv_at hl 3 rfl) ?_
  refine k_callX (va_runV (As := [.int (nI n2)]) (rest := []) ⟨hx, hb, hml, hown, hts⟩ (c_X3_versionAt_y l D g b0 H A σ dw hC n2 hn2) (cwV 1 hts gX3_patch_X3_versionAt rfl rfl rfl (by decide +kernel) ⟨Nat.le_of_ble_eq_true rfl, Nat.le_of_ble_eq_true rfl⟩) ⟨kPc_blind, k_recv hK hC.o rfl, fun U hU hW => kPc_at hK hU hW⟩ rfl rfl hl.1 rfl (lv_room (Nat.le_of_ble_eq_true rfl)) dX3_patch_9 ⟨Nat.le_of_ble_eq_true rfl, Nat.le_of_ble_eq_true rfl⟩) ?_
  refine lv_astore (lv' := [(5, .ref (A (16 + 4 * n2))), (4, .ref (A (16 + 4 * n))), (0, .ref (A 0)), (1, .int (nI n)), (2, .int (nI n2)), (3, .int (ix))]) hx hb dX3_patch_12 hl (by decide) rfl (fun ls hl => ?_)
  refine lv_aload hx hb dX3_patch_14 (lv_at hl 1 rfl) ?_
  refine lv_ifnull hx hb dX3_patch_16 ?_
  refine lv_aload hx hb dX3_patch_19 (lv_at hl 0 rfl) ?_
  refine lv_ifnonnull (tgt := 26) hx hb dX3_patch_21 (by decide) ?_
  refine lv_aload_n hx hb dX3_patch_26 rfl (lv_at hl 2 rfl) ?_
  refine k_get (ci := 3) (C := RX3) (T := TX3) (N := 7) (v := .ref (A 7)) hx hb hts (by decide +kernel) hown hK hC.o rfl 6 (by decide) rfl (hts (.fieldLink RX3 31 RX3 "draft" "LVersionMerge$TripleSet;") (by decide +kernel)) rfl dX3_patch_27 ?_
  refine lv_aload hx hb dX3_patch_30 (lv_at hl 1 rfl) ?_
  refine k_getN (ci := 2) (C := RX2) (T := TX2) (N := 5) (v := .ref (A (17 + 4 * n))) hx hb hts (by decide +kernel) hown hK (hC.ver hn) rfl 3 (by decide) rfl (List.mem_of_getElem? (i := 3) rfl) rfl dX3_patch_32 ?_
  refine lv_aload hx hb dX3_patch_35 (lv_at hl 0 rfl) ?_
  refine k_getN (ci := 2) (C := RX2) (T := TX2) (N := 5) (v := .ref (A (17 + 4 * n2))) hx hb hts (by decide +kernel) hown hK (hC.ver hn2) rfl 3 (by decide) rfl (List.mem_of_getElem? (i := 3) rfl) rfl dX3_patch_37 ?_
  refine k_callU (va_runVN (As := [.ref (A (17 + 4 * n)), .ref (A (17 + 4 * n2))]) (rest := []) ⟨hx, hb, hml, hown, hts⟩ (c_X1_becomeDifference l D g b0 H (A 7) (A 8) dw hC.dr hC.drw (hC.ge (cl0 (by omega))) (hC.ne (cl0 (by omega)) (cl0 (by omega)) (by omega)) (A (17 + 4 * n)) (A (18 + 4 * n)) (sW σ n) (hC.ts hn) (hC.tw hn) (hC.ne (clV n hn (by omega) (by omega)) (cl0 (by omega)) (by omega)) (hC.ne (clV n hn (by omega) (by omega)) (cl0 (by omega)) (by omega)) (A (17 + 4 * n2)) (A (18 + 4 * n2)) (sW σ n2) (hC.ts hn2) (hC.tw hn2) (hC.ne (clV n2 hn2 (by omega) (by omega)) (cl0 (by omega)) (by omega)) (hC.ne (clV n2 hn2 (by omega) (by omega)) (cl0 (by omega)) (by omega))) ⟨va_cnB 2 hts gX3_patch_X1_becomeDifference_n114 rfl rfl rfl (hK.2.1 (RX3, 114, yX1_becomeDifference) (List.mem_of_getElem? (i := 17) rfl)) (hts (.initialized RX1) (by decide +kernel)) (by decide +kernel) ⟨Nat.le_of_ble_eq_true rfl, Nat.le_of_ble_eq_true rfl⟩, hts (.instanceMethod yX1_becomeDifference) (by decide +kernel), hts (.selects RX1 yX1_becomeDifference yX1_becomeDifference) (by decide +kernel)⟩ ⟨kPc_blind, k_recv hK hC.dr rfl, fun U hU hW => kPc_at hK hU hW⟩ rfl rfl hl.1 rfl (lv_room (Nat.le_of_ble_eq_true rfl)) dX3_patch_40 ⟨Nat.le_of_ble_eq_true rfl, Nat.le_of_ble_eq_true rfl⟩) LB.nil (fun H1 locs1 hLB1 hq1 => ?_)
  obtain ⟨f1, hw1, hCh, hf1v⟩ := hq1
  have hC1 := hC.draft hw1 hCh
  have hF1 : CFr H A σ H1 A σ := CFr.chg (cl0 (by omega)) hCh (fun c hc => hc)
  refine lv_aload_n hx hb dX3_patch_43 rfl (lv_at hl 2 rfl) ?_
  refine k_get (ci := 3) (C := RX3) (T := TX3) (N := 7) (v := .ref (A 7)) hx hb hts (by decide +kernel) hown hK hC1.o rfl 6 (by decide) rfl (hts (.fieldLink RX3 31 RX3 "draft" "LVersionMerge$TripleSet;") (by decide +kernel)) rfl dX3_patch_44 ?_
  refine lv_iload_n hx hb dX3_patch_47 rfl (lv_at hl 5 rfl) ?_
  refine k_callS (va_runVN (As := [.int (ix)]) (rest := []) ⟨hx, hb, hml, hown, hts⟩ (c_X1_tripleAt_w l D g H1 (A 7) (A 8) f1 hC1.dr hC1.drw ix) ⟨va_cnB 1 hts gX3_patch_X1_tripleAt_n118 rfl rfl rfl (hK.2.1 (RX3, 118, yX1_tripleAt) (List.mem_of_getElem? (i := 18) rfl)) (hts (.initialized RX1) (by decide +kernel)) (by decide +kernel) ⟨Nat.le_of_ble_eq_true rfl, Nat.le_of_ble_eq_true rfl⟩, hts (.instanceMethod yX1_tripleAt) (by decide +kernel), hts (.selects RX1 yX1_tripleAt yX1_tripleAt) (by decide +kernel)⟩ ⟨kPc_blind, k_recv hK hC1.dr rfl, fun U hU hW => kPc_at hK hU hW⟩ rfl rfl hl.1 rfl (lv_room (Nat.le_of_ble_eq_true rfl)) dX3_patch_48 ⟨Nat.le_of_ble_eq_true rfl, Nat.le_of_ble_eq_true rfl⟩) (fun rt hrt => ?_)
  refine lv_istore (lv' := [(6, .int (rt)), (5, .ref (A (16 + 4 * n2))), (4, .ref (A (16 + 4 * n))), (0, .ref (A 0)), (1, .int (nI n)), (2, .int (nI n2)), (3, .int (ix))]) hx hb dX3_patch_51 hl (by decide) rfl (fun ls hl => ?_)
  refine lv_iload hx hb dX3_patch_53 (lv_at hl 0 rfl) ?_
  refine lv_iconst (v := (-1)) hx hb dX3_patch_55 (by decide +kernel) ?_
  rcases hrt with rfl | ⟨t, ht, rfl⟩
  · skip
    refine lv_icmp_ne (tgt := 62) hx hb dX3_patch_56 (by decide) (fun q => absurd rfl q) (fun _ => ?_)
    refine lv_bipush (v := (-2)) hx hb dX3_patch_59 (by decide +kernel) ?_
    exact r_iI hx hb hr hLB1 (Nat.le_refl _) (Nat.le_refl _) ⟨A, σ, f1, hC1, hF1, rfl⟩ dX3_patch_61 hlocks
  · skip
    refine lv_icmp_ne (tgt := 62) hx hb dX3_patch_56 (by decide) (fun _ => ?_) (fun q => absurd q (nI_neg (by omega)))
    refine lv_aload hx hb dX3_patch_62 (lv_at hl 1 rfl) ?_
    refine k_getN (ci := 2) (C := RX2) (T := TX2) (N := 5) (v := .ref (A (17 + 4 * n2))) hx hb hts (by decide +kernel) hown hK (hC1.ver hn2) rfl 3 (by decide) rfl (List.mem_of_getElem? (i := 3) rfl) rfl dX3_patch_64 ?_
    refine lv_iload hx hb dX3_patch_67 (lv_at hl 0 rfl) ?_
    refine k_callX (va_runVN (As := [.int (nI t)]) (rest := []) ⟨hx, hb, hml, hown, hts⟩ (c_X1_has l D g H1 (A (17 + 4 * n2)) (A (18 + 4 * n2)) (sW σ n2) (hC1.ts hn2) (hC1.tw hn2) t ht) ⟨va_cnB 1 hts gX3_patch_X1_has_n61 rfl rfl rfl (hK.2.1 (RX3, 61, yX1_has) (List.mem_of_getElem? (i := 5) rfl)) (hts (.initialized RX1) (by decide +kernel)) (by decide +kernel) ⟨Nat.le_of_ble_eq_true rfl, Nat.le_of_ble_eq_true rfl⟩, hts (.instanceMethod yX1_has) (by decide +kernel), hts (.selects RX1 yX1_has yX1_has) (by decide +kernel)⟩ ⟨kPc_blind, k_recv hK (hC1.ts hn2) rfl, fun U hU hW => kPc_at hK hU hW⟩ rfl rfl hl.1 rfl (lv_room (Nat.le_of_ble_eq_true rfl)) dX3_patch_69 ⟨Nat.le_of_ble_eq_true rfl, Nat.le_of_ble_eq_true rfl⟩) ?_
    refine z_if_eq (tgt := 80) hx hb dX3_patch_72 (by decide) (fun c_784 => ?_) (fun c_784 => ?_)
    · skip
      refine lv_bipush (v := (-10)) hx hb dX3_patch_80 (by decide +kernel) ?_
      refine lv_iload hx hb dX3_patch_82 (lv_at hl 0 rfl) ?_
      refine lv_isub hx hb dX3_patch_84 ?_
      exact r_iI hx hb hr hLB1 (Nat.le_refl _) (Nat.le_refl _) ⟨A, σ, f1, hC1, hF1, rfl⟩ dX3_patch_85 hlocks
    · skip
      refine lv_iload hx hb dX3_patch_75 (lv_at hl 0 rfl) ?_
      refine lv_goto (tgt := 85) hx hb dX3_patch_77 (by decide) ?_
      exact r_iI hx hb hr hLB1 (Nat.le_refl _) (Nat.le_refl _) ⟨A, σ, f1, hC1, hF1, rfl⟩ dX3_patch_85 hlocks
theorem c_X3_patch (l : Launch) (D : va_G) (g : Nat → ClassId) (b0 : Nat) (H : Heap) (A : Nat → Nat) (σ : SG) (dw : Nat → Int64) (hC : CR D g b0 A σ dw H) (fi ti ix : Int32) : Met l yX3_patch wsX3_patch ({ frames := 4, cells := 0, slots := 0, locals := 89 } : Room) (kPc D g [.ref (A 0), .int fi, .int ti, .int ix] H) (kI (PubQ D g b0 H A σ (SpSame σ))) 0 0 (kF b0) := by
  rcases ve_dec σ fi with h | ⟨n, hn, rfl⟩
  · exact c_X3_patch_n1 l D g b0 H A σ dw hC fi ti ix h
  · rcases ve_dec σ ti with h | ⟨n2, hn2, rfl⟩
    · exact c_X3_patch_n2 l D g b0 H A σ dw hC n hn ti ix h
    · exact c_X3_patch_y l D g b0 H A σ dw hC n n2 hn hn2 ix

/-! 16: the reference: one object, ten arrays: their cells at addresses by codes 0 .. 10, their contents x 1 .. x 10 (the walks are laid by wip/gen/mod16.py) -/
abbrev mg (g : Nat → ClassId) (c : Nat) : ClassId := if c = 1 ∨ c = 7 then g 0 else if c = 5 ∨ c = 6 then g 3 else g 1
abbrev mn (c : Nat) : Nat := if c = 1 then 1638400 else if c = 7 then 4096 else if c = 4 then 40 else if 8 ≤ c then 64 else 400
def MC (D : va_G) (g : Nat → ClassId) (b0 : Nat) (μ : Nat → Nat) (nV nB nC : Nat) (x : Nat → Nat → Int32) (H : Heap) : Prop :=
  (∀ i j, i ≤ 10 → j ≤ 10 → μ i = μ j → i = j) ∧ (∀ i, i ≤ 10 → b0 ≤ μ i) ∧
  HA D H (μ 0) (eO 4 [.ref (μ 1), .ref (μ 2), .ref (μ 3), .int (nI nV), .ref (μ 4), .int (nI nB), .ref (μ 5), .ref (μ 6), .ref (μ 7), .ref (μ 8), .ref (μ 9), .ref (μ 10), .int (nI nC)]) ∧
  ∀ c, 1 ≤ c → c ≤ 10 → HA D H (μ c) (eI (mg g c) (mn c) (x c))
/-- the frame that the rest of the world sees -/
def MFr (μ : Nat → Nat) (H H1 : Heap) : Prop := H.size ≤ H1.size ∧ ∀ q, q < H.size → (∀ i, i ≤ 10 → q ≠ μ i) → H1[q]? = H[q]?
theorem MFr.rf {μ : Nat → Nat} {H : Heap} : MFr μ H H := ⟨Nat.le_refl _, fun _ _ _ => rfl⟩
theorem MFr.tr {μ : Nat → Nat} {H H1 H2 : Heap} (h : MFr μ H H1) (h2 : MFr μ H1 H2) : MFr μ H H2 := ⟨Nat.le_trans h.1 h2.1, fun q hq ho => (h2.2 q (Nat.lt_of_lt_of_le hq h.1) ho).trans (h.2 q hq ho)⟩
theorem MFr.chg {μ : Nat → Nat} {H H1 : Heap} {c : Nat} (hc : c ≤ 10) (h : Chg H H1 (μ c)) : MFr μ H H1 := ⟨h.1, fun q hq ho => h.2 q hq (ho c hc)⟩
section MCS
variable {D : va_G} {g : Nat → ClassId} {b0 : Nat} {μ : Nat → Nat} {nV nB nC : Nat} {x : Nat → Nat → Int32} {H H1 : Heap}
theorem MC.ge (h : MC D g b0 μ nV nB nC x H) {c : Nat} (hc : c ≤ 10) : b0 ≤ μ c := h.2.1 c hc
theorem MC.ne (h : MC D g b0 μ nV nB nC x H) {c d : Nat} (hc : c ≤ 10) (hd : d ≤ 10) (hn : c ≠ d) : μ c ≠ μ d := fun e => hn (h.1 c d hc hd e)
theorem MC.o (h : MC D g b0 μ nV nB nC x H) : HA D H (μ 0) (eO 4 [.ref (μ 1), .ref (μ 2), .ref (μ 3), .int (nI nV), .ref (μ 4), .int (nI nB), .ref (μ 5), .ref (μ 6), .ref (μ 7), .ref (μ 8), .ref (μ 9), .ref (μ 10), .int (nI nC)]) := h.2.2.1
theorem MC.a1 (h : MC D g b0 μ nV nB nC x H) : HA D H (μ 1) (eI (g 0) 1638400 (x 1)) := h.2.2.2 1 (by decide) (by decide)
theorem MC.a2 (h : MC D g b0 μ nV nB nC x H) : HA D H (μ 2) (eI (g 1) 400 (x 2)) := h.2.2.2 2 (by decide) (by decide)
theorem MC.a3 (h : MC D g b0 μ nV nB nC x H) : HA D H (μ 3) (eI (g 1) 400 (x 3)) := h.2.2.2 3 (by decide) (by decide)
theorem MC.a4 (h : MC D g b0 μ nV nB nC x H) : HA D H (μ 4) (eI (g 1) 40 (x 4)) := h.2.2.2 4 (by decide) (by decide)
theorem MC.a5 (h : MC D g b0 μ nV nB nC x H) : HA D H (μ 5) (eI (g 3) 400 (x 5)) := h.2.2.2 5 (by decide) (by decide)
theorem MC.a6 (h : MC D g b0 μ nV nB nC x H) : HA D H (μ 6) (eI (g 3) 400 (x 6)) := h.2.2.2 6 (by decide) (by decide)
theorem MC.a7 (h : MC D g b0 μ nV nB nC x H) : HA D H (μ 7) (eI (g 0) 4096 (x 7)) := h.2.2.2 7 (by decide) (by decide)
theorem MC.a8 (h : MC D g b0 μ nV nB nC x H) : HA D H (μ 8) (eI (g 1) 64 (x 8)) := h.2.2.2 8 (by decide) (by decide)
theorem MC.a9 (h : MC D g b0 μ nV nB nC x H) : HA D H (μ 9) (eI (g 1) 64 (x 9)) := h.2.2.2 9 (by decide) (by decide)
theorem MC.a10 (h : MC D g b0 μ nV nB nC x H) : HA D H (μ 10) (eI (g 1) 64 (x 10)) := h.2.2.2 10 (by decide) (by decide)
theorem MC.set (h : MC D g b0 μ nV nB nC x H) {c : Nat} (h1 : 1 ≤ c) (h2 : c ≤ 10) {f : Nat → Int32} (hf : HA D H1 (μ c) (eI (mg g c) (mn c) f)) (hC : Chg H H1 (μ c)) : MC D g b0 μ nV nB nC (va_up x c f) H1 := by
  refine ⟨h.1, h.2.1, h.o.chg hC (h.ne (by omega) h2 (by omega)), fun d d1 d2 => ?_⟩
  by_cases e : d = c
  · subst e; rw [up_eq]; exact hf
  · rw [up_ne _ _ e]; exact (h.2.2.2 d d1 d2).chg hC (h.ne d2 h2 e)
theorem MC.num (h : MC D g b0 μ nV nB nC x H) {nV' nB' nC' : Nat} (ho : HA D H1 (μ 0) (eO 4 [.ref (μ 1), .ref (μ 2), .ref (μ 3), .int (nI nV'), .ref (μ 4), .int (nI nB'), .ref (μ 5), .ref (μ 6), .ref (μ 7), .ref (μ 8), .ref (μ 9), .ref (μ 10), .int (nI nC')])) (hC : Chg H H1 (μ 0)) : MC D g b0 μ nV' nB' nC' x H1 :=
  ⟨h.1, h.2.1, ho, fun d d1 d2 => (h.2.2.2 d d1 d2).chg hC (h.ne d2 (by omega) (by omega))⟩
theorem MC.keep (h : MC D g b0 μ nV nB nC x H) (hk : ∀ q, q < H.size → (∃ i, i ≤ 10 ∧ q = μ i) → H1[q]? = H[q]?) : MC D g b0 μ nV nB nC x H1 :=
  ⟨h.1, h.2.1, h.o.kept (hk _ h.o.lt ⟨0, by omega, rfl⟩), fun d d1 d2 => (h.2.2.2 d d1 d2).kept (hk _ (h.2.2.2 d d1 d2).lt ⟨d, d2, rfl⟩)⟩
end MCS
def pI (o : Option Nat) : Int32 := match o with
  | none => -1
  | some k => nI k
/-- i is one of 0 .. n - 1 -/
def inB (i : Int32) (n : Nat) : Bool := decide (¬ i < 0) && decide (¬ nI n ≤ i)
theorem inB_lt {i : Int32} {n : Nat} (h : i < 0) : inB i n = false := by
  unfold inB
  rw [show decide (¬ i < 0) = false from decide_eq_false (fun z => z h), Bool.false_and]
theorem inB_ge {i : Int32} {n : Nat} (h : nI n ≤ i) : inB i n = false := by
  unfold inB
  rw [show decide (¬ nI n ≤ i) = false from decide_eq_false (fun z => z h), Bool.and_false]
theorem inB_in {i : Int32} {n : Nat} (h : ¬ i < 0) (h2 : ¬ nI n ≤ i) : inB i n = true := by
  unfold inB
  rw [show decide (¬ i < 0) = true from decide_eq_true h, show decide (¬ nI n ≤ i) = true from decide_eq_true h2]
  rfl
theorem inB_nI {k n : Nat} (h : k < n) (hn : n < 2 ^ 31) : inB (nI k) n = true := inB_in (nI_pos (by omega)) (nI_ge h hn)
theorem inB_ex {i : Int32} {n : Nat} (h : inB i n = true) (hn : n < 2 ^ 31) : ∃ k, k < n ∧ i = nI k := by
  unfold inB at h
  rw [Bool.and_eq_true] at h
  exact int_lt (of_decide_eq_true h.1) (of_decide_eq_true h.2) hn
theorem inB_no {i : Int32} {n : Nat} (hn : n < 2 ^ 31) (h : ∀ k, k < n → ¬ i = nI k) : inB i n = false := by
  cases hb : inB i n with
  | false => rfl
  | true =>
    obtain ⟨k, hk, e⟩ := inB_ex hb hn
    exact absurd e (h k hk)
/-- bit t of version o, if there is one -/
def HasO (x : Nat → Nat → Int32) (o : Option Nat) (t : Nat) (b : Bool) : Prop := match o with
  | none => b = false
  | some k => k < 400 ∧ x 1 (4096 * k + t) = b2i b
theorem up_self {α : Type} (f : Nat → α) (k : Nat) : va_up f k (f k) = f := by
  funext j
  by_cases e : j = k
  · subst e; rw [up_eq]
  · rw [up_ne _ _ e]
set_option maxHeartbeats 4000000 in
set_option maxRecDepth 100000 in
theorem c_X4_isBranch (l : Launch) (D : va_G) (g : Nat → ClassId) (b0 : Nat) (H : Heap) (μ : Nat → Nat) (nV nB nC : Nat) (x : Nat → Nat → Int32) (hM : MC D g b0 μ nV nB nC x H) (hV4 : nV ≤ 400) (hB4 : nB ≤ 40) (hC4 : nC ≤ 64) (i : Int32) : Met l yX4_isBranch wsX4_isBranch ({ frames := 0, cells := 0, slots := 0, locals := 0 } : Room) (kPc D g [.ref (μ 0), .int (i)] H) (kX (.int (b2i (inB i nB))) H) 0 0 kN := by
  refine Met.ofW (cc := cX4_isBranch) (maxL := 2) (ret := (some .boolean)) (by decide) rfl ?_
  intro p e s m args below meth c s₁ B hml hv
  obtain ⟨rfl, hH, hK⟩ := hv
  have hx := B.exec
  have hb := B.bytes
  have hr := B.returns
  have hts := atoms_spec (ws := wsX4_isBranch) B.pre
  have hown : s.vm.findClass RX4 = some m.cls := findClass_of_methodNamed B.named
  have hlocks := B.notSynchronized
  rw [hH]
  have hl := lv_entry ([.ref (μ 0), .int (i)]) (n := 2) (Nat.le_of_ble_eq_true rfl)
  rw [lg_entry_eq]
  generalize (lg_sl ([.ref (μ 0), .int (i)]) ++ List.replicate (2 - (lg_sl ([.ref (μ 0), .int (i)])).length) Slot.unset).toArray = ls at hl ⊢
  have hl : lv_has ls 2 [(0, .ref (μ 0)), (1, .int (i))] := hl
  refine lv_iload_n hx hb dX4_isBranch_0 rfl (lv_at hl 1 rfl) ?_
  refine lv_if_lt (tgt := 16) hx hb dX4_isBranch_1 (by decide) (fun c_529 => ?_) (fun c_529 => ?_)
  · skip
    refine lv_iconst (v := b2i false) hx hb dX4_isBranch_16 (by decide +kernel) ?_
    exact r_zX hx hb hr (by rw [inB_lt c_529]) dX4_isBranch_17 hlocks
  · skip
    refine lv_iload_n hx hb dX4_isBranch_4 rfl (lv_at hl 1 rfl) ?_
    refine lv_aload_n hx hb dX4_isBranch_5 rfl (lv_at hl 0 rfl) ?_
    refine k_get (ci := 4) (C := RX4) (T := TX4) (N := 13) (v := .int (nI nB)) hx hb hts (by decide +kernel) hown hK hM.o rfl 5 (by decide) rfl (hts (.fieldLink RX4 47 RX4 "branches" "I") (by decide +kernel)) rfl dX4_isBranch_6 ?_
    refine lv_icmp_ge (tgt := 16) hx hb dX4_isBranch_9 (by decide) (fun c_530 => ?_) (fun c_530 => ?_)
    · skip
      refine lv_iconst (v := b2i false) hx hb dX4_isBranch_16 (by decide +kernel) ?_
      exact r_zX hx hb hr (by rw [inB_ge c_530]) dX4_isBranch_17 hlocks
    · skip
      refine lv_iconst (v := b2i true) hx hb dX4_isBranch_12 (by decide +kernel) ?_
      refine lv_goto (tgt := 17) hx hb dX4_isBranch_13 (by decide) ?_
      exact r_zX hx hb hr (by rw [inB_in c_529 c_530]) dX4_isBranch_17 hlocks
set_option maxHeartbeats 4000000 in
set_option maxRecDepth 100000 in
theorem c_X4_isVersion (l : Launch) (D : va_G) (g : Nat → ClassId) (b0 : Nat) (H : Heap) (μ : Nat → Nat) (nV nB nC : Nat) (x : Nat → Nat → Int32) (hM : MC D g b0 μ nV nB nC x H) (hV4 : nV ≤ 400) (hB4 : nB ≤ 40) (hC4 : nC ≤ 64) (i : Int32) : Met l yX4_isVersion wsX4_isVersion ({ frames := 0, cells := 0, slots := 0, locals := 0 } : Room) (kPc D g [.ref (μ 0), .int (i)] H) (kX (.int (b2i (inB i nV))) H) 0 0 kN := by
  refine Met.ofW (cc := cX4_isVersion) (maxL := 2) (ret := (some .boolean)) (by decide) rfl ?_
  intro p e s m args below meth c s₁ B hml hv
  obtain ⟨rfl, hH, hK⟩ := hv
  have hx := B.exec
  have hb := B.bytes
  have hr := B.returns
  have hts := atoms_spec (ws := wsX4_isVersion) B.pre
  have hown : s.vm.findClass RX4 = some m.cls := findClass_of_methodNamed B.named
  have hlocks := B.notSynchronized
  rw [hH]
  have hl := lv_entry ([.ref (μ 0), .int (i)]) (n := 2) (Nat.le_of_ble_eq_true rfl)
  rw [lg_entry_eq]
  generalize (lg_sl ([.ref (μ 0), .int (i)]) ++ List.replicate (2 - (lg_sl ([.ref (μ 0), .int (i)])).length) Slot.unset).toArray = ls at hl ⊢
  have hl : lv_has ls 2 [(0, .ref (μ 0)), (1, .int (i))] := hl
  refine lv_iload_n hx hb dX4_isVersion_0 rfl (lv_at hl 1 rfl) ?_
  refine lv_if_lt (tgt := 16) hx hb dX4_isVersion_1 (by decide) (fun c_531 => ?_) (fun c_531 => ?_)
  · skip
    refine lv_iconst (v := b2i false) hx hb dX4_isVersion_16 (by decide +kernel) ?_
    exact r_zX hx hb hr (by rw [inB_lt c_531]) dX4_isVersion_17 hlocks
  · skip
    refine lv_iload_n hx hb dX4_isVersion_4 rfl (lv_at hl 1 rfl) ?_
    refine lv_aload_n hx hb dX4_isVersion_5 rfl (lv_at hl 0 rfl) ?_
    refine k_get (ci := 4) (C := RX4) (T := TX4) (N := 13) (v := .int (nI nV)) hx hb hts (by decide +kernel) hown hK hM.o rfl 3 (by decide) rfl (hts (.fieldLink RX4 43 RX4 "versions" "I") (by decide +kernel)) rfl dX4_isVersion_6 ?_
    refine lv_icmp_ge (tgt := 16) hx hb dX4_isVersion_9 (by decide) (fun c_532 => ?_) (fun c_532 => ?_)
    · skip
      refine lv_iconst (v := b2i false) hx hb dX4_isVersion_16 (by decide +kernel) ?_
      exact r_zX hx hb hr (by rw [inB_ge c_532]) dX4_isVersion_17 hlocks
    · skip
      refine lv_iconst (v := b2i true) hx hb dX4_isVersion_12 (by decide +kernel) ?_
      refine lv_goto (tgt := 17) hx hb dX4_isVersion_13 (by decide) ?_
      exact r_zX hx hb hr (by rw [inB_in c_531 c_532]) dX4_isVersion_17 hlocks
set_option maxHeartbeats 4000000 in
set_option maxRecDepth 100000 in
theorem c_X4_has_y (l : Launch) (D : va_G) (g : Nat → ClassId) (b0 : Nat) (H : Heap) (μ : Nat → Nat) (nV nB nC : Nat) (x : Nat → Nat → Int32) (hM : MC D g b0 μ nV nB nC x H) (hV4 : nV ≤ 400) (hB4 : nB ≤ 40) (hC4 : nC ≤ 64) (k t : Nat) (hk : k < 400) (ht : t < 4096) (bb : Bool) (hbb : x 1 (4096 * k + t) = b2i bb) : Met l yX4_has wsX4_has ({ frames := 0, cells := 0, slots := 0, locals := 0 } : Room) (kPc D g [.ref (μ 0), .int (nI k), .int (nI t)] H) (kX (.int (b2i bb)) H) 0 0 kN := by
  refine Met.ofW (cc := cX4_has) (maxL := 3) (ret := (some .boolean)) (by decide) rfl ?_
  intro p e s m args below meth c s₁ B hml hv
  obtain ⟨rfl, hH, hK⟩ := hv
  have hx := B.exec
  have hb := B.bytes
  have hr := B.returns
  have hts := atoms_spec (ws := wsX4_has) B.pre
  have hown : s.vm.findClass RX4 = some m.cls := findClass_of_methodNamed B.named
  have hlocks := B.notSynchronized
  rw [hH]
  have hl := lv_entry ([.ref (μ 0), .int (nI k), .int (nI t)]) (n := 3) (Nat.le_of_ble_eq_true rfl)
  rw [lg_entry_eq]
  generalize (lg_sl ([.ref (μ 0), .int (nI k), .int (nI t)]) ++ List.replicate (3 - (lg_sl ([.ref (μ 0), .int (nI k), .int (nI t)])).length) Slot.unset).toArray = ls at hl ⊢
  have hl : lv_has ls 3 [(0, .ref (μ 0)), (1, .int (nI k)), (2, .int (nI t))] := hl
  refine lv_iload_n hx hb dX4_has_0 rfl (lv_at hl 1 rfl) ?_
  refine n_if_lt (tgt := 24) hx hb dX4_has_1 (by decide) (by omega) ?_
  refine lv_aload_n hx hb dX4_has_4 rfl (lv_at hl 0 rfl) ?_
  refine k_get (ci := 4) (C := RX4) (T := TX4) (N := 13) (v := .ref (μ 1)) hx hb hts (by decide +kernel) hown hK hM.o rfl 0 (by decide) rfl (hts (.fieldLink RX4 8 RX4 "sets" "[B") (by decide +kernel)) rfl dX4_has_5 ?_
  refine lv_sipush (v := nI 4096) hx hb dX4_has_8 (by decide +kernel) ?_
  refine lv_iload_n hx hb dX4_has_11 rfl (lv_at hl 1 rfl) ?_
  refine lv_imul hx hb dX4_has_12 ?_
  refine lv_topi (nm_r (show (nI 4096) * (nI k) = nI (4096 * (k)) from pk_mul _ _) ?_)
  refine lv_iload_n hx hb dX4_has_13 rfl (lv_at hl 2 rfl) ?_
  refine lv_iadd hx hb dX4_has_14 ?_
  refine lv_topi (nm_r (show (nI (4096 * (k))) + (nI t) = nI (4096 * (k) + t) from nI_add _ _) ?_)
  refine k_bald hx hb hK hM.a1 (4096 * k + t) rfl (by omega) (by omega) dX4_has_15 ?_
  rw [hbb]
  refine lv_iconst (v := b2i true) hx hb dX4_has_16 (by decide +kernel) ?_
  refine z_icmp_ne (tgt := 24) hx hb dX4_has_17 (by decide) (fun c_534 => ?_) (fun c_534 => ?_)
  · skip
    refine lv_iconst (v := b2i false) hx hb dX4_has_24 (by decide +kernel) ?_
    exact r_zX hx hb hr (by rw [show bb = false from ts_nt c_534]) dX4_has_25 hlocks
  · skip
    refine lv_iconst (v := b2i true) hx hb dX4_has_20 (by decide +kernel) ?_
    refine lv_goto (tgt := 25) hx hb dX4_has_21 (by decide) ?_
    exact r_zX hx hb hr (by rw [c_534]) dX4_has_25 hlocks
set_option maxHeartbeats 4000000 in
set_option maxRecDepth 100000 in
theorem c_X4_has_n (l : Launch) (D : va_G) (g : Nat → ClassId) (b0 : Nat) (H : Heap) (μ : Nat → Nat) (nV nB nC : Nat) (x : Nat → Nat → Int32) (hM : MC D g b0 μ nV nB nC x H) (hV4 : nV ≤ 400) (hB4 : nB ≤ 40) (hC4 : nC ≤ 64) (t : Nat) : Met l yX4_has wsX4_has ({ frames := 0, cells := 0, slots := 0, locals := 0 } : Room) (kPc D g [.ref (μ 0), .int ((-1)), .int (nI t)] H) (kX (.int (b2i false)) H) 0 0 kN := by
  refine Met.ofW (cc := cX4_has) (maxL := 3) (ret := (some .boolean)) (by decide) rfl ?_
  intro p e s m args below meth c s₁ B hml hv
  obtain ⟨rfl, hH, hK⟩ := hv
  have hx := B.exec
  have hb := B.bytes
  have hr := B.returns
  have hts := atoms_spec (ws := wsX4_has) B.pre
  have hown : s.vm.findClass RX4 = some m.cls := findClass_of_methodNamed B.named
  have hlocks := B.notSynchronized
  rw [hH]
  have hl := lv_entry ([.ref (μ 0), .int ((-1)), .int (nI t)]) (n := 3) (Nat.le_of_ble_eq_true rfl)
  rw [lg_entry_eq]
  generalize (lg_sl ([.ref (μ 0), .int ((-1)), .int (nI t)]) ++ List.replicate (3 - (lg_sl ([.ref (μ 0), .int ((-1)), .int (nI t)])).length) Slot.unset).toArray = ls at hl ⊢
  have hl : lv_has ls 3 [(0, .ref (μ 0)), (1, .int ((-1))), (2, .int (nI t))] := hl
  refine lv_iload_n hx hb dX4_has_0 rfl (lv_at hl 1 rfl) ?_
  refine lv_if_lt (tgt := 24) hx hb dX4_has_1 (by decide) (fun c_535 => ?_) (fun c_535 => ?_)
  · skip
    refine lv_iconst (v := b2i false) hx hb dX4_has_24 (by decide +kernel) ?_
    exact r_zX hx hb hr (rfl) dX4_has_25 hlocks
  · skip
    exact absurd (by decide) c_535
theorem c_X4_has (l : Launch) (D : va_G) (g : Nat → ClassId) (b0 : Nat) (H : Heap) (μ : Nat → Nat) (nV nB nC : Nat) (x : Nat → Nat → Int32) (hM : MC D g b0 μ nV nB nC x H) (hV4 : nV ≤ 400) (hB4 : nB ≤ 40) (hC4 : nC ≤ 64) (o : Option Nat) (t : Nat) (ht : t < 4096) (bb : Bool) (hbb : HasO x o t bb) : Met l yX4_has wsX4_has ({ frames := 0, cells := 0, slots := 0, locals := 0 } : Room) (kPc D g [.ref (μ 0), .int (pI o), .int (nI t)] H) (kX (.int (b2i bb)) H) 0 0 kN := by
  cases o with
  | none =>
    obtain rfl : bb = false := hbb
    exact c_X4_has_n l D g b0 H μ nV nB nC x hM hV4 hB4 hC4 t
  | some k => exact c_X4_has_y l D g b0 H μ nV nB nC x hM hV4 hB4 hC4 k t hbb.1 ht bb hbb.2
set_option maxHeartbeats 4000000 in
set_option maxRecDepth 100000 in
theorem c_X4_take (l : Launch) (D : va_G) (g : Nat → ClassId) (b0 : Nat) (H : Heap) (μ : Nat → Nat) (nV nB nC : Nat) (x : Nat → Nat → Int32) (hM : MC D g b0 μ nV nB nC x H) (hV4 : nV ≤ 400) (hB4 : nB ≤ 40) (hC4 : nC ≤ 64) (o : Option Nat) (bo : Nat → Bool) (hbo : ∀ t, t < 4096 → HasO x o t (bo t)) : Met l yX4_take wsX4_take ({ frames := 1, cells := 0, slots := 0, locals := 22 } : Room) (kPc D g [.ref (μ 0), .int (pI o)] H) (kU (fun H1 => ∃ h1 : Nat → Int32, MC D g b0 μ nV nB nC (va_up x 7 h1) H1 ∧ MFr μ H H1 ∧ ∀ t, t < 4096 → h1 t = b2i (bo t))) 0 0 (kF b0) := by
  refine Met.ofW (cc := cX4_take) (maxL := 3) (ret := none) (by decide) rfl ?_
  intro p e s m args below meth c s₁ B hml hv
  obtain ⟨rfl, hH, hK⟩ := hv
  have hx := B.exec
  have hb := B.bytes
  have hr := B.returns
  have hts := atoms_spec (ws := wsX4_take) B.pre
  have hown : s.vm.findClass RX4 = some m.cls := findClass_of_methodNamed B.named
  have hlocks := B.notSynchronized
  rw [hH]
  have hl := lv_entry ([.ref (μ 0), .int (pI o)]) (n := 3) (Nat.le_of_ble_eq_true rfl)
  rw [lg_entry_eq]
  generalize (lg_sl ([.ref (μ 0), .int (pI o)]) ++ List.replicate (3 - (lg_sl ([.ref (μ 0), .int (pI o)])).length) Slot.unset).toArray = ls at hl ⊢
  have hl : lv_has ls 3 [(0, .ref (μ 0)), (1, .int (pI o))] := hl
  refine lv_iconst (v := nI 0) hx hb dX4_take_0 (by decide +kernel) ?_
  refine lv_istore_n (lv' := [(2, .int (nI 0)), (0, .ref (μ 0)), (1, .int (pI o))]) hx hb dX4_take_1 rfl hl (by decide) rfl (fun ls hl => ?_)
  have loop : ∀ (n i : Nat) (H1 : Heap) (locs1 : List Loc) (h1 : Nat → Int32), 4096 < i + n → i ≤ 4096 → MC D g b0 μ nV nB nC (va_up x 7 h1) H1 → MFr μ H H1 → LB b0 locs1 → (∀ t, t < i → h1 t = b2i (bo t)) → ∀ ls, lv_has ls 3 [(2, .int (nI i)), (0, .ref (μ 0)), (1, .int (pI o))] → W p l e (headSpec wsX4_take ({ frames := 1, cells := 0, slots := 0, locals := 22 } : Room)).room s m ([.ref (μ 0), .int (pI o)] : List Value).toArray below meth c H1 locs1 0 0 (MQ below (kU (fun H1 => ∃ h1 : Nat → Int32, MC D g b0 μ nV nB nC (va_up x 7 h1) H1 ∧ MFr μ H H1 ∧ ∀ t, t < 4096 → h1 t = b2i (bo t))) ([.ref (μ 0), .int (pI o)] : List Value).toArray s 0 0 (kF b0)) (F0 m 2 ls []) := by
    intro n
    induction n with
    | zero => intro i H1 locs1 h1 h0 h1; omega
    | succ n ih =>
      intro i H1 locs1 h1 hn hi hM1 hF hLB hv ls hl
      refine lv_iload_n hx hb dX4_take_2 rfl (lv_at hl 0 rfl) ?_
      refine lv_sipush (v := nI 4096) hx hb dX4_take_3 (by decide +kernel) ?_
      refine n_icmp_ge (tgt := 36) hx hb dX4_take_6 (by decide) (by omega) (by omega) (fun c_536 => ?_) (fun c_536 => ?_)
      · skip
        exact r_vU hx hb hr hLB (Nat.le_refl _) (Nat.le_refl _) ⟨h1, hM1, hF, fun t ht => hv t (by omega)⟩ dX4_take_36 hlocks
      · skip
        refine lv_aload_n hx hb dX4_take_9 rfl (lv_at hl 1 rfl) ?_
        refine k_get (ci := 4) (C := RX4) (T := TX4) (N := 13) (v := .ref (μ 7)) hx hb hts (by decide +kernel) hown hK hM1.o rfl 8 (by decide) rfl (hts (.fieldLink RX4 31 RX4 "hand" "[B") (by decide +kernel)) rfl dX4_take_10 ?_
        refine lv_iload_n hx hb dX4_take_13 rfl (lv_at hl 0 rfl) ?_
        refine lv_aload_n hx hb dX4_take_14 rfl (lv_at hl 1 rfl) ?_
        refine lv_iload_n hx hb dX4_take_15 rfl (lv_at hl 2 rfl) ?_
        refine lv_iload_n hx hb dX4_take_16 rfl (lv_at hl 0 rfl) ?_
        refine k_callX (va_runV (As := [.int (pI o), .int (nI i)]) (rest := [.int (nI i), .ref (μ 7)]) ⟨hx, hb, hml, hown, hts⟩ (c_X4_has l D g b0 H1 μ (nV) (nB) (nC) (va_up x 7 h1) hM1 (by omega) (by omega) (by omega) (o) (i) (by omega) (bo i) (by have q := hbo i (by omega); exact q)) (cwV 2 hts gX4_take_X4_has rfl rfl rfl (by decide +kernel) ⟨Nat.le_of_ble_eq_true rfl, Nat.le_of_ble_eq_true rfl⟩) ⟨kPc_blind, k_recv hK hM1.o rfl, fun U hU hW => kPc_at hK hU hW⟩ rfl rfl hl.1 rfl (lv_room (Nat.le_of_ble_eq_true rfl)) dX4_take_17 ⟨Nat.le_of_ble_eq_true rfl, Nat.le_of_ble_eq_true rfl⟩) ?_
        refine z_if_eq (tgt := 27) hx hb dX4_take_20 (by decide) (fun c_537 => ?_) (fun c_537 => ?_)
        · skip
          refine lv_iconst (v := b2i false) hx hb dX4_take_27 (by decide +kernel) ?_
          refine lv_i2b (v := b2i false) hx hb dX4_take_28 (b2i_b _) ?_
          refine k_bast (y := b2i false) hx hb hK hM1.a7 hLB (hM1.ge (by omega)) (i) rfl (by omega) (by omega) (b2i_y _) dX4_take_29 (fun H_538 locs_539 hw_540 hC_541 hLB_542 => ?_)
          have hM_543 := hM1.set (c := 7) (by omega) (by omega) (f := (upd ((va_up x 7 h1) 7) (i) (b2i false))) hw_540 hC_541
          refine lv_iinc (v := nI (i + 1)) (lv' := [(2, .int (nI (i + 1))), (0, .ref (μ 0)), (1, .int (pI o))]) hx hb dX4_take_30 hl (k := 0) rfl (nI_add (i) 1) (by decide) rfl (fun ls hl => ?_)
          refine lv_goto (tgt := 2) hx hb dX4_take_33 (by decide) ?_
          have hM2 : MC D g b0 μ nV nB nC (va_up x 7 (upd h1 i (b2i (bo i)))) H_538 := by
            have q := hM_543
            rw [up_eq, bx_uu] at q
            rw [c_537]
            exact q
          refine ih (i + 1) H_538 locs_539 _ (by omega) (by omega) hM2 (hF.tr (MFr.chg (by omega) hC_541)) hLB_542 ?_ ls (lv_sub hl [0, 1, 2] rfl)
          intro t ht
          by_cases e : t = i
          · subst e; rw [pk_us]
          · rw [pk_un e]; exact hv t (by omega)
        · skip
          refine lv_iconst (v := b2i true) hx hb dX4_take_23 (by decide +kernel) ?_
          refine lv_goto (tgt := 28) hx hb dX4_take_24 (by decide) ?_
          refine lv_i2b (v := b2i true) hx hb dX4_take_28 (b2i_b _) ?_
          refine k_bast (y := b2i true) hx hb hK hM1.a7 hLB (hM1.ge (by omega)) (i) rfl (by omega) (by omega) (b2i_y _) dX4_take_29 (fun H_544 locs_545 hw_546 hC_547 hLB_548 => ?_)
          have hM_549 := hM1.set (c := 7) (by omega) (by omega) (f := (upd ((va_up x 7 h1) 7) (i) (b2i true))) hw_546 hC_547
          refine lv_iinc (v := nI (i + 1)) (lv' := [(2, .int (nI (i + 1))), (0, .ref (μ 0)), (1, .int (pI o))]) hx hb dX4_take_30 hl (k := 0) rfl (nI_add (i) 1) (by decide) rfl (fun ls hl => ?_)
          refine lv_goto (tgt := 2) hx hb dX4_take_33 (by decide) ?_
          have hM2 : MC D g b0 μ nV nB nC (va_up x 7 (upd h1 i (b2i (bo i)))) H_544 := by
            have q := hM_549
            rw [up_eq, bx_uu] at q
            rw [c_537]
            exact q
          refine ih (i + 1) H_544 locs_545 _ (by omega) (by omega) hM2 (hF.tr (MFr.chg (by omega) hC_547)) hLB_548 ?_ ls (lv_sub hl [0, 1, 2] rfl)
          intro t ht
          by_cases e : t = i
          · subst e; rw [pk_us]
          · rw [pk_un e]; exact hv t (by omega)
  exact loop 4097 0 H [] (x 7) (by omega) (by omega) (by rw [up_self]; exact hM) MFr.rf LB.nil (fun t h => by omega) ls (lv_sub hl [0, 1, 2] rfl)
set_option maxHeartbeats 4000000 in
set_option maxRecDepth 100000 in
theorem c_X4_grow (l : Launch) (D : va_G) (g : Nat → ClassId) (b0 : Nat) (H : Heap) (μ : Nat → Nat) (nV nB nC : Nat) (x : Nat → Nat → Int32) (hM : MC D g b0 μ nV nB nC x H) (hV4 : nV ≤ 400) (hB4 : nB ≤ 40) (hC4 : nC ≤ 64) (hV : nV < 400) (fv sv : Int32) (hb_ : Nat → Bool) (hh : ∀ t, t < 4096 → x 7 t = b2i (hb_ t)) : Met l yX4_grow wsX4_grow ({ frames := 0, cells := 0, slots := 0, locals := 0 } : Room) (kPc D g [.ref (μ 0), .int (fv), .int (sv)] H) (kI (fun r H1 => r = nI nV ∧ ∃ s1 : Nat → Int32, MC D g b0 μ (nV + 1) nB nC (va_up (va_up (va_up x 2 (upd (x 2) nV fv)) 3 (upd (x 3) nV sv)) 1 s1) H1 ∧ MFr μ H H1 ∧ (∀ t, t < 4096 → s1 (4096 * nV + t) = b2i (hb_ t)) ∧ ∀ j, j < 4096 * nV → s1 j = x 1 j)) 0 0 (kF b0) := by
  refine Met.ofW (cc := cX4_grow) (maxL := 4) (ret := (some .int)) (by decide) rfl ?_
  intro p e s m args below meth c s₁ B hml hv
  obtain ⟨rfl, hH, hK⟩ := hv
  have hx := B.exec
  have hb := B.bytes
  have hr := B.returns
  have hts := atoms_spec (ws := wsX4_grow) B.pre
  have hown : s.vm.findClass RX4 = some m.cls := findClass_of_methodNamed B.named
  have hlocks := B.notSynchronized
  rw [hH]
  have hl := lv_entry ([.ref (μ 0), .int (fv), .int (sv)]) (n := 4) (Nat.le_of_ble_eq_true rfl)
  rw [lg_entry_eq]
  generalize (lg_sl ([.ref (μ 0), .int (fv), .int (sv)]) ++ List.replicate (4 - (lg_sl ([.ref (μ 0), .int (fv), .int (sv)])).length) Slot.unset).toArray = ls at hl ⊢
  have hl : lv_has ls 4 [(0, .ref (μ 0)), (1, .int (fv)), (2, .int (sv))] := hl
  refine lv_aload_n hx hb dX4_grow_0 rfl (lv_at hl 0 rfl) ?_
  refine k_get (ci := 4) (C := RX4) (T := TX4) (N := 13) (v := .ref (μ 2)) hx hb hts (by decide +kernel) hown hK hM.o rfl 1 (by decide) rfl (hts (.fieldLink RX4 14 RX4 "firsts" "[I") (by decide +kernel)) rfl dX4_grow_1 ?_
  refine lv_aload_n hx hb dX4_grow_4 rfl (lv_at hl 0 rfl) ?_
  refine k_get (ci := 4) (C := RX4) (T := TX4) (N := 13) (v := .int (nI nV)) hx hb hts (by decide +kernel) hown hK hM.o rfl 3 (by decide) rfl (hts (.fieldLink RX4 43 RX4 "versions" "I") (by decide +kernel)) rfl dX4_grow_5 ?_
  refine lv_iload_n hx hb dX4_grow_8 rfl (lv_at hl 1 rfl) ?_
  refine k_iast hx hb hK hM.a2 LB.nil (hM.ge (by omega)) (nV) rfl (by omega) (by omega) dX4_grow_9 (fun H_550 locs_551 hw_552 hC_553 hLB_554 => ?_)
  have hM_555 := hM.set (c := 2) (by omega) (by omega) (f := (upd (x 2) (nV) (fv))) hw_552 hC_553
  refine lv_aload_n hx hb dX4_grow_10 rfl (lv_at hl 0 rfl) ?_
  refine k_get (ci := 4) (C := RX4) (T := TX4) (N := 13) (v := .ref (μ 3)) hx hb hts (by decide +kernel) hown hK hM_555.o rfl 2 (by decide) rfl (hts (.fieldLink RX4 18 RX4 "seconds" "[I") (by decide +kernel)) rfl dX4_grow_11 ?_
  refine lv_aload_n hx hb dX4_grow_14 rfl (lv_at hl 0 rfl) ?_
  refine k_get (ci := 4) (C := RX4) (T := TX4) (N := 13) (v := .int (nI nV)) hx hb hts (by decide +kernel) hown hK hM_555.o rfl 3 (by decide) rfl (hts (.fieldLink RX4 43 RX4 "versions" "I") (by decide +kernel)) rfl dX4_grow_15 ?_
  refine lv_iload_n hx hb dX4_grow_18 rfl (lv_at hl 2 rfl) ?_
  refine k_iast hx hb hK hM_555.a3 hLB_554 (hM_555.ge (by omega)) (nV) rfl (by omega) (by omega) dX4_grow_19 (fun H_556 locs_557 hw_558 hC_559 hLB_560 => ?_)
  have hM_561 := hM_555.set (c := 3) (by omega) (by omega) (f := (upd ((va_up x 2 (upd (x 2) (nV) (fv))) 3) (nV) (sv))) hw_558 hC_559
  refine lv_iconst (v := nI 0) hx hb dX4_grow_20 (by decide +kernel) ?_
  refine lv_istore_n (lv' := [(3, .int (nI 0)), (0, .ref (μ 0)), (1, .int (fv)), (2, .int (sv))]) hx hb dX4_grow_21 rfl hl (by decide) rfl (fun ls hl => ?_)
  have hMg : MC D g b0 μ nV nB nC (va_up (va_up x 2 (upd (x 2) nV fv)) 3 (upd (x 3) nV sv)) H_556 := hM_561
  have hFg : MFr μ H H_556 := (MFr.chg (by omega) hC_553).tr (MFr.chg (by omega) hC_559)
  have loop : ∀ (n i : Nat) (H1 : Heap) (locs1 : List Loc) (s1 : Nat → Int32), 4096 < i + n → i ≤ 4096 → MC D g b0 μ nV nB nC (va_up (va_up (va_up x 2 (upd (x 2) nV fv)) 3 (upd (x 3) nV sv)) 1 s1) H1 → MFr μ H H1 → LB b0 locs1 → (∀ t, t < i → s1 (4096 * nV + t) = b2i (hb_ t)) → (∀ j, j < 4096 * nV → s1 j = x 1 j) → ∀ ls, lv_has ls 4 [(3, .int (nI i)), (0, .ref (μ 0)), (1, .int fv), (2, .int sv)] → W p l e (headSpec wsX4_grow ({ frames := 0, cells := 0, slots := 0, locals := 0 } : Room)).room s m ([.ref (μ 0), .int (fv), .int (sv)] : List Value).toArray below meth c H1 locs1 0 0 (MQ below (kI (fun r H1 => r = nI nV ∧ ∃ s1 : Nat → Int32, MC D g b0 μ (nV + 1) nB nC (va_up (va_up (va_up x 2 (upd (x 2) nV fv)) 3 (upd (x 3) nV sv)) 1 s1) H1 ∧ MFr μ H H1 ∧ (∀ t, t < 4096 → s1 (4096 * nV + t) = b2i (hb_ t)) ∧ ∀ j, j < 4096 * nV → s1 j = x 1 j)) ([.ref (μ 0), .int (fv), .int (sv)] : List Value).toArray s 0 0 (kF b0)) (F0 m 22 ls []) := by
    intro n
    induction n with
    | zero => intro i H1 locs1 s1 h0 h1; omega
    | succ n ih =>
      intro i H1 locs1 s1 hn hi hM1 hF hLB hv hw ls hl
      refine lv_iload_n hx hb dX4_grow_22 rfl (lv_at hl 0 rfl) ?_
      refine lv_sipush (v := nI 4096) hx hb dX4_grow_23 (by decide +kernel) ?_
      refine n_icmp_ge (tgt := 56) hx hb dX4_grow_26 (by decide) (by omega) (by omega) (fun c_562 => ?_) (fun c_562 => ?_)
      · skip
        refine lv_aload_n hx hb dX4_grow_56 rfl (lv_at hl 1 rfl) ?_
        refine lv_dup hx hb dX4_grow_57 rfl ?_
        refine k_get (ci := 4) (C := RX4) (T := TX4) (N := 13) (v := .int (nI nV)) hx hb hts (by decide +kernel) hown hK hM1.o rfl 3 (by decide) rfl (hts (.fieldLink RX4 43 RX4 "versions" "I") (by decide +kernel)) rfl dX4_grow_58 ?_
        refine lv_iconst (v := nI 1) hx hb dX4_grow_61 (by decide +kernel) ?_
        refine lv_iadd hx hb dX4_grow_62 ?_
        refine lv_topi (nm_r (show (nI nV) + (nI 1) = nI (nV + 1) from nI_add _ _) ?_)
        refine k_put (ci := 4) (T := TX4) (N := 13) (v := .int (nI (nV + 1))) hx hb hts (by decide +kernel) tyX4 tyX4_ok nmX4 hown hK hM1.o hLB (hM1.ge (by omega)) rfl 3 (by decide) rfl (hts (.fieldLink RX4 43 RX4 "versions" "I") (by decide +kernel)) rfl (ty := .int) (by decide +kernel) rfl rfl (Nat.le_of_ble_eq_true rfl) dX4_grow_63 (fun H_563 locs_564 ho_565 hC_566 hLB_567 => ?_)
        have hM_568 := hM1.num (nV' := nV + 1) (nB' := nB) (nC' := nC) ho_565 hC_566
        refine lv_aload_n hx hb dX4_grow_66 rfl (lv_at hl 1 rfl) ?_
        refine k_get (ci := 4) (C := RX4) (T := TX4) (N := 13) (v := .int (nI (nV + 1))) hx hb hts (by decide +kernel) hown hK hM_568.o rfl 3 (by decide) rfl (hts (.fieldLink RX4 43 RX4 "versions" "I") (by decide +kernel)) rfl dX4_grow_67 ?_
        refine lv_iconst (v := nI 1) hx hb dX4_grow_70 (by decide +kernel) ?_
        refine lv_isub hx hb dX4_grow_71 ?_
        refine lv_topi (nm_r (show (nI (nV + 1)) - (nI 1) = nI nV from nI_pred _) ?_)
        exact r_iI hx hb hr hLB_567 (Nat.le_refl _) (Nat.le_refl _) ⟨rfl, s1, hM_568, hF.tr (MFr.chg (by omega) hC_566), fun t ht => hv t (by omega), hw⟩ dX4_grow_72 hlocks
      · skip
        refine lv_aload_n hx hb dX4_grow_29 rfl (lv_at hl 1 rfl) ?_
        refine k_get (ci := 4) (C := RX4) (T := TX4) (N := 13) (v := .ref (μ 1)) hx hb hts (by decide +kernel) hown hK hM1.o rfl 0 (by decide) rfl (hts (.fieldLink RX4 8 RX4 "sets" "[B") (by decide +kernel)) rfl dX4_grow_30 ?_
        refine lv_sipush (v := nI 4096) hx hb dX4_grow_33 (by decide +kernel) ?_
        refine lv_aload_n hx hb dX4_grow_36 rfl (lv_at hl 1 rfl) ?_
        refine k_get (ci := 4) (C := RX4) (T := TX4) (N := 13) (v := .int (nI nV)) hx hb hts (by decide +kernel) hown hK hM1.o rfl 3 (by decide) rfl (hts (.fieldLink RX4 43 RX4 "versions" "I") (by decide +kernel)) rfl dX4_grow_37 ?_
        refine lv_imul hx hb dX4_grow_40 ?_
        refine lv_topi (nm_r (show (nI 4096) * (nI nV) = nI (4096 * (nV)) from pk_mul _ _) ?_)
        refine lv_iload_n hx hb dX4_grow_41 rfl (lv_at hl 0 rfl) ?_
        refine lv_iadd hx hb dX4_grow_42 ?_
        refine lv_topi (nm_r (show (nI (4096 * (nV))) + (nI i) = nI (4096 * (nV) + i) from nI_add _ _) ?_)
        refine lv_aload_n hx hb dX4_grow_43 rfl (lv_at hl 1 rfl) ?_
        refine k_get (ci := 4) (C := RX4) (T := TX4) (N := 13) (v := .ref (μ 7)) hx hb hts (by decide +kernel) hown hK hM1.o rfl 8 (by decide) rfl (hts (.fieldLink RX4 31 RX4 "hand" "[B") (by decide +kernel)) rfl dX4_grow_44 ?_
        refine lv_iload_n hx hb dX4_grow_47 rfl (lv_at hl 0 rfl) ?_
        refine k_bald hx hb hK hM1.a7 i rfl (by omega) (by omega) dX4_grow_48 ?_
        rw [show va_up (va_up (va_up x 2 (upd (x 2) nV fv)) 3 (upd (x 3) nV sv)) 1 s1 7 i = b2i (hb_ i) from hh i (by omega)]
        refine k_bast (y := b2i (hb_ i)) hx hb hK hM1.a1 hLB (hM1.ge (by omega)) (4096 * (nV) + i) rfl (by omega) (by omega) (b2i_y _) dX4_grow_49 (fun H_569 locs_570 hw_571 hC_572 hLB_573 => ?_)
        have hM_574 := hM1.set (c := 1) (by omega) (by omega) (f := (upd ((va_up (va_up (va_up x 2 (upd (x 2) nV fv)) 3 (upd (x 3) nV sv)) 1 s1) 1) (4096 * (nV) + i) (b2i (hb_ i)))) hw_571 hC_572
        refine lv_iinc (v := nI (i + 1)) (lv' := [(3, .int (nI (i + 1))), (0, .ref (μ 0)), (1, .int (fv)), (2, .int (sv))]) hx hb dX4_grow_50 hl (k := 0) rfl (nI_add (i) 1) (by decide) rfl (fun ls hl => ?_)
        refine lv_goto (tgt := 22) hx hb dX4_grow_53 (by decide) ?_
        have hM2 : MC D g b0 μ nV nB nC (va_up (va_up (va_up x 2 (upd (x 2) nV fv)) 3 (upd (x 3) nV sv)) 1 (upd s1 (4096 * nV + i) (b2i (hb_ i)))) H_569 := by
          have q := hM_574
          rw [up_eq, bx_uu] at q
          exact q
        refine ih (i + 1) H_569 locs_570 _ (by omega) (by omega) hM2 (hF.tr (MFr.chg (by omega) hC_572)) hLB_573 ?_ ?_ ls (lv_sub hl [0, 1, 2, 3] rfl)
        · intro t ht
          by_cases e : t = i
          · subst e; rw [pk_us]
          · rw [pk_un (by omega)]; exact hv t (by omega)
        · intro j hj
          rw [pk_un (by omega)]; exact hw j hj
  exact loop 4097 0 H_556 locs_557 (x 1) (by omega) (by omega) (by rw [show x 1 = (va_up (va_up x 2 (upd (x 2) nV fv)) 3 (upd (x 3) nV sv)) 1 from rfl, up_self]; exact hMg) hFg hLB_560 (fun t h => by omega) (fun _ _ => rfl) ls (lv_sub hl [0, 1, 2, 3] rfl)
set_option maxHeartbeats 4000000 in
set_option maxRecDepth 100000 in
theorem c_X4_turned (l : Launch) (D : va_G) (g : Nat → ClassId) (H : Heap) (t q o : Nat) (ht : t < 4096) (hq : q < 4096) (ho : o < 4096) : Met l yX4_turned wsX4_turned ({ frames := 0, cells := 0, slots := 0, locals := 0 } : Room) (kPc D g [.int (nI t), .int (nI q), .int (nI o)] H) (kX (.int (nI (rn t q o))) H) 0 0 kN := by
  refine Met.ofW (cc := cX4_turned) (maxL := 3) (ret := (some .int)) (by decide) rfl ?_
  intro p e s m args below meth c s₁ B hml hv
  obtain ⟨rfl, hH, hK⟩ := hv
  have hx := B.exec
  have hb := B.bytes
  have hr := B.returns
  have hts := atoms_spec (ws := wsX4_turned) B.pre
  have hown : s.vm.findClass RX4 = some m.cls := findClass_of_methodNamed B.named
  have hlocks := B.notSynchronized
  rw [hH]
  have hl := lv_entry ([.int (nI t), .int (nI q), .int (nI o)]) (n := 3) (Nat.le_of_ble_eq_true rfl)
  rw [lg_entry_eq]
  generalize (lg_sl ([.int (nI t), .int (nI q), .int (nI o)]) ++ List.replicate (3 - (lg_sl ([.int (nI t), .int (nI q), .int (nI o)])).length) Slot.unset).toArray = ls at hl ⊢
  have hl : lv_has ls 3 [(0, .int (nI t)), (1, .int (nI q)), (2, .int (nI o))] := hl
  refine lv_iload_n hx hb dX4_turned_0 rfl (lv_at hl 0 rfl) ?_
  refine lv_iload_n hx hb dX4_turned_1 rfl (lv_at hl 1 rfl) ?_
  refine n_icmp_ne (tgt := 9) hx hb dX4_turned_2 (by decide) (by omega) (by omega) (fun c_575 => ?_) (fun c_575 => ?_)
  · skip
    refine lv_iload_n hx hb dX4_turned_9 rfl (lv_at hl 0 rfl) ?_
    exact r_iX hx hb hr (by rw [rn_n c_575]) dX4_turned_10 hlocks
  · skip
    refine lv_iload_n hx hb dX4_turned_5 rfl (lv_at hl 2 rfl) ?_
    refine lv_goto (tgt := 10) hx hb dX4_turned_6 (by decide) ?_
    exact r_iX hx hb hr (by rw [rn_y c_575]) dX4_turned_10 hlocks
set_option maxHeartbeats 4000000 in
set_option maxRecDepth 100000 in
theorem c_X4_stands (l : Launch) (D : va_G) (g : Nat → ClassId) (b0 : Nat) (H : Heap) (μ : Nat → Nat) (nV nB nC : Nat) (x : Nat → Nat → Int32) (hM : MC D g b0 μ nV nB nC x H) (hV4 : nV ≤ 400) (hB4 : nB ≤ 40) (hC4 : nC ≤ 64) (o : Option Nat) (bo : Nat → Bool) (hbo : ∀ t, t < 4096 → HasO x o t (bo t)) (q : Nat) (hq : q < 16) (bb : Bool) (hbb : bb = true ↔ ∃ t, t < 4096 ∧ bo t = true ∧ pointIn t q) : Met l yX4_stands wsX4_stands ({ frames := 1, cells := 0, slots := 0, locals := 22 } : Room) (kPc D g [.ref (μ 0), .int (pI o), .int (nI q)] H) (kX (.int (b2i bb)) H) 0 0 kN := by
  refine Met.ofW (cc := cX4_stands) (maxL := 5) (ret := (some .boolean)) (by decide) rfl ?_
  intro p e s m args below meth c s₁ B hml hv
  obtain ⟨rfl, hH, hK⟩ := hv
  have hx := B.exec
  have hb := B.bytes
  have hr := B.returns
  have hts := atoms_spec (ws := wsX4_stands) B.pre
  have hown : s.vm.findClass RX4 = some m.cls := findClass_of_methodNamed B.named
  have hlocks := B.notSynchronized
  rw [hH]
  have hl := lv_entry ([.ref (μ 0), .int (pI o), .int (nI q)]) (n := 5) (Nat.le_of_ble_eq_true rfl)
  rw [lg_entry_eq]
  generalize (lg_sl ([.ref (μ 0), .int (pI o), .int (nI q)]) ++ List.replicate (5 - (lg_sl ([.ref (μ 0), .int (pI o), .int (nI q)])).length) Slot.unset).toArray = ls at hl ⊢
  have hl : lv_has ls 5 [(0, .ref (μ 0)), (1, .int (pI o)), (2, .int (nI q))] := hl
  refine lv_iconst (v := b2i false) hx hb dX4_stands_0 (by decide +kernel) ?_
  refine lv_istore_n (lv' := [(3, .int (b2i false)), (0, .ref (μ 0)), (1, .int (pI o)), (2, .int (nI q))]) hx hb dX4_stands_1 rfl hl (by decide) rfl (fun ls hl => ?_)
  refine lv_iconst (v := nI 0) hx hb dX4_stands_2 (by decide +kernel) ?_
  refine lv_istore (lv' := [(4, .int (nI 0)), (3, .int (b2i false)), (0, .ref (μ 0)), (1, .int (pI o)), (2, .int (nI q))]) hx hb dX4_stands_3 hl (by decide) rfl (fun ls hl => ?_)
  have loop : ∀ (n i : Nat) (y : Bool), 4096 < i + n → i ≤ 4096 → (y = true ↔ ∃ t, t < i ∧ bo t = true ∧ pointIn t q) → ∀ ls, lv_has ls 5 [(4, .int (nI i)), (3, .int (b2i y)), (0, .ref (μ 0)), (1, .int (pI o)), (2, .int (nI q))] → W p l e (headSpec wsX4_stands ({ frames := 1, cells := 0, slots := 0, locals := 22 } : Room)).room s m ([.ref (μ 0), .int (pI o), .int (nI q)] : List Value).toArray below meth c H [] 0 0 (MQ below (kX (.int (b2i bb)) H) ([.ref (μ 0), .int (pI o), .int (nI q)] : List Value).toArray s 0 0 kN) (F0 m 5 ls []) := by
    intro n
    induction n with
    | zero => intro i y h0 h1; omega
    | succ n ih =>
      intro i y hn hi hv ls hl
      refine lv_iload hx hb dX4_stands_5 (lv_at hl 0 rfl) ?_
      refine lv_sipush (v := nI 4096) hx hb dX4_stands_7 (by decide +kernel) ?_
      refine n_icmp_ge (tgt := 68) hx hb dX4_stands_10 (by decide) (by omega) (by omega) (fun c_576 => ?_) (fun c_576 => ?_)
      · skip
        refine lv_iload_n hx hb dX4_stands_68 rfl (lv_at hl 1 rfl) ?_
        exact r_zX hx hb hr (by rw [show y = bb from Bool.eq_iff_iff.mpr (hv.trans (Iff.trans ⟨fun ⟨t, h1, h2⟩ => ⟨t, by omega, h2⟩, fun ⟨t, h1, h2⟩ => ⟨t, by omega, h2⟩⟩ hbb.symm))]) dX4_stands_69 hlocks
      · skip
        refine lv_iload_n hx hb dX4_stands_13 rfl (lv_at hl 1 rfl) ?_
        refine z_if_ne (tgt := 68) hx hb dX4_stands_14 (by decide) (fun c_577 => ?_) (fun c_577 => ?_)
        · skip
          refine lv_iload_n hx hb dX4_stands_68 rfl (lv_at hl 1 rfl) ?_
          exact r_zX hx hb hr (by obtain ⟨t, h1, h2⟩ := hv.mp c_577; rw [c_577, hbb.mpr ⟨t, by omega, h2⟩]) dX4_stands_69 hlocks
        · skip
          refine lv_aload_n hx hb dX4_stands_17 rfl (lv_at hl 2 rfl) ?_
          refine lv_iload_n hx hb dX4_stands_18 rfl (lv_at hl 3 rfl) ?_
          refine lv_iload hx hb dX4_stands_19 (lv_at hl 0 rfl) ?_
          refine k_callX (va_runV (As := [.int (pI o), .int (nI i)]) (rest := []) ⟨hx, hb, hml, hown, hts⟩ (c_X4_has l D g b0 H μ (nV) (nB) (nC) x hM (by omega) (by omega) (by omega) (o) (i) (by omega) (bo i) (hbo i (by omega))) (cwV 2 hts gX4_stands_X4_has rfl rfl rfl (by decide +kernel) ⟨Nat.le_of_ble_eq_true rfl, Nat.le_of_ble_eq_true rfl⟩) ⟨kPc_blind, k_recv hK hM.o rfl, fun U hU hW => kPc_at hK hU hW⟩ rfl rfl hl.1 rfl (lv_room (Nat.le_of_ble_eq_true rfl)) dX4_stands_21 ⟨Nat.le_of_ble_eq_true rfl, Nat.le_of_ble_eq_true rfl⟩) ?_
          refine z_if_eq (tgt := 60) hx hb dX4_stands_24 (by decide) (fun c_578 => ?_) (fun c_578 => ?_)
          · skip
            refine lv_iconst (v := b2i false) hx hb dX4_stands_60 (by decide +kernel) ?_
            refine lv_istore_n (lv' := [(3, .int (b2i false)), (4, .int (nI i)), (0, .ref (μ 0)), (1, .int (pI o)), (2, .int (nI q))]) hx hb dX4_stands_61 rfl hl (by decide) rfl (fun ls hl => ?_)
            refine lv_iinc (v := nI (i + 1)) (lv' := [(4, .int (nI (i + 1))), (3, .int (b2i false)), (0, .ref (μ 0)), (1, .int (pI o)), (2, .int (nI q))]) hx hb dX4_stands_62 hl (k := 1) rfl (nI_add (i) 1) (by decide) rfl (fun ls hl => ?_)
            refine lv_goto (tgt := 5) hx hb dX4_stands_65 (by decide) ?_
            refine ih (i + 1) false (by omega) (by omega) ⟨fun z => (by cases z), fun ⟨t, h1, h2, h3⟩ => ?_⟩ ls (lv_sub hl [0, 1, 2, 3, 4] rfl)
            rcases Nat.lt_or_ge t i with z | z
            · exact (by rw [hv.mpr ⟨t, z, h2, h3⟩] at c_577; cases c_577)
            · rw [show t = i by omega, c_578] at h2; cases h2
          · skip
            refine lv_iload hx hb dX4_stands_27 (lv_at hl 0 rfl) ?_
            refine lv_bipush (v := nI 8) hx hb dX4_stands_29 (by decide +kernel) ?_
            refine lv_ishr hx hb dX4_stands_31 ?_
            refine lv_topi (nm_r (show (nI i) >>> ((nI 8) &&& 31) = nI (i / 256) from pk_shrN (by omega) _ 8 (by decide +kernel)) ?_)
            refine lv_iload_n hx hb dX4_stands_32 rfl (lv_at hl 4 rfl) ?_
            refine n_icmp_eq (tgt := 56) hx hb dX4_stands_33 (by decide) (by omega) (by omega) (fun c_579 => ?_) (fun c_579 => ?_)
            · skip
              refine lv_iconst (v := b2i true) hx hb dX4_stands_56 (by decide +kernel) ?_
              refine lv_goto (tgt := 61) hx hb dX4_stands_57 (by decide) ?_
              refine lv_istore_n (lv' := [(3, .int (b2i true)), (4, .int (nI i)), (0, .ref (μ 0)), (1, .int (pI o)), (2, .int (nI q))]) hx hb dX4_stands_61 rfl hl (by decide) rfl (fun ls hl => ?_)
              refine lv_iinc (v := nI (i + 1)) (lv' := [(4, .int (nI (i + 1))), (3, .int (b2i true)), (0, .ref (μ 0)), (1, .int (pI o)), (2, .int (nI q))]) hx hb dX4_stands_62 hl (k := 1) rfl (nI_add (i) 1) (by decide) rfl (fun ls hl => ?_)
              refine lv_goto (tgt := 5) hx hb dX4_stands_65 (by decide) ?_
              exact ih (i + 1) true (by omega) (by omega) ⟨fun _ => ⟨i, by omega, c_578, Or.inl c_579⟩, fun _ => rfl⟩ ls (lv_sub hl [0, 1, 2, 3, 4] rfl)
            · skip
              refine lv_iload hx hb dX4_stands_36 (lv_at hl 0 rfl) ?_
              refine lv_iconst (v := nI 4) hx hb dX4_stands_38 (by decide +kernel) ?_
              refine lv_ishr hx hb dX4_stands_39 ?_
              refine lv_topi (nm_r (show (nI i) >>> ((nI 4) &&& 31) = nI (i / 16) from pk_shrN (by omega) _ 4 (by decide +kernel)) ?_)
              refine lv_bipush (v := nI 15) hx hb dX4_stands_40 (by decide +kernel) ?_
              refine lv_iand hx hb dX4_stands_42 ?_
              refine lv_topi (nm_r (show (nI (i / 16)) &&& (nI 15) = nI ((i / 16) % 16) from pk_andN (by omega) 4 (by decide +kernel)) ?_)
              refine lv_iload_n hx hb dX4_stands_43 rfl (lv_at hl 4 rfl) ?_
              refine n_icmp_eq (tgt := 56) hx hb dX4_stands_44 (by decide) (by omega) (by omega) (fun c_580 => ?_) (fun c_580 => ?_)
              · skip
                refine lv_iconst (v := b2i true) hx hb dX4_stands_56 (by decide +kernel) ?_
                refine lv_goto (tgt := 61) hx hb dX4_stands_57 (by decide) ?_
                refine lv_istore_n (lv' := [(3, .int (b2i true)), (4, .int (nI i)), (0, .ref (μ 0)), (1, .int (pI o)), (2, .int (nI q))]) hx hb dX4_stands_61 rfl hl (by decide) rfl (fun ls hl => ?_)
                refine lv_iinc (v := nI (i + 1)) (lv' := [(4, .int (nI (i + 1))), (3, .int (b2i true)), (0, .ref (μ 0)), (1, .int (pI o)), (2, .int (nI q))]) hx hb dX4_stands_62 hl (k := 1) rfl (nI_add (i) 1) (by decide) rfl (fun ls hl => ?_)
                refine lv_goto (tgt := 5) hx hb dX4_stands_65 (by decide) ?_
                exact ih (i + 1) true (by omega) (by omega) ⟨fun _ => ⟨i, by omega, c_578, Or.inr (Or.inl c_580)⟩, fun _ => rfl⟩ ls (lv_sub hl [0, 1, 2, 3, 4] rfl)
              · skip
                refine lv_iload hx hb dX4_stands_47 (lv_at hl 0 rfl) ?_
                refine lv_bipush (v := nI 15) hx hb dX4_stands_49 (by decide +kernel) ?_
                refine lv_iand hx hb dX4_stands_51 ?_
                refine lv_topi (nm_r (show (nI i) &&& (nI 15) = nI (i % 16) from pk_andN (by omega) 4 (by decide +kernel)) ?_)
                refine lv_iload_n hx hb dX4_stands_52 rfl (lv_at hl 4 rfl) ?_
                refine n_icmp_ne (tgt := 60) hx hb dX4_stands_53 (by decide) (by omega) (by omega) (fun c_581 => ?_) (fun c_581 => ?_)
                · skip
                  refine lv_iconst (v := b2i false) hx hb dX4_stands_60 (by decide +kernel) ?_
                  refine lv_istore_n (lv' := [(3, .int (b2i false)), (4, .int (nI i)), (0, .ref (μ 0)), (1, .int (pI o)), (2, .int (nI q))]) hx hb dX4_stands_61 rfl hl (by decide) rfl (fun ls hl => ?_)
                  refine lv_iinc (v := nI (i + 1)) (lv' := [(4, .int (nI (i + 1))), (3, .int (b2i false)), (0, .ref (μ 0)), (1, .int (pI o)), (2, .int (nI q))]) hx hb dX4_stands_62 hl (k := 1) rfl (nI_add (i) 1) (by decide) rfl (fun ls hl => ?_)
                  refine lv_goto (tgt := 5) hx hb dX4_stands_65 (by decide) ?_
                  refine ih (i + 1) false (by omega) (by omega) ⟨fun z => (by cases z), fun ⟨t, h1, h2, h3⟩ => ?_⟩ ls (lv_sub hl [0, 1, 2, 3, 4] rfl)
                  rcases Nat.lt_or_ge t i with z | z
                  · exact (by rw [hv.mpr ⟨t, z, h2, h3⟩] at c_577; cases c_577)
                  · rw [show t = i by omega] at h3; exact h3.elim (fun y => absurd y c_579) (fun z3 => z3.elim (fun y => absurd y c_580) (fun y => absurd y c_581))
                · skip
                  refine lv_iconst (v := b2i true) hx hb dX4_stands_56 (by decide +kernel) ?_
                  refine lv_goto (tgt := 61) hx hb dX4_stands_57 (by decide) ?_
                  refine lv_istore_n (lv' := [(3, .int (b2i true)), (4, .int (nI i)), (0, .ref (μ 0)), (1, .int (pI o)), (2, .int (nI q))]) hx hb dX4_stands_61 rfl hl (by decide) rfl (fun ls hl => ?_)
                  refine lv_iinc (v := nI (i + 1)) (lv' := [(4, .int (nI (i + 1))), (3, .int (b2i true)), (0, .ref (μ 0)), (1, .int (pI o)), (2, .int (nI q))]) hx hb dX4_stands_62 hl (k := 1) rfl (nI_add (i) 1) (by decide) rfl (fun ls hl => ?_)
                  refine lv_goto (tgt := 5) hx hb dX4_stands_65 (by decide) ?_
                  exact ih (i + 1) true (by omega) (by omega) ⟨fun _ => ⟨i, by omega, c_578, Or.inr (Or.inr c_581)⟩, fun _ => rfl⟩ ls (lv_sub hl [0, 1, 2, 3, 4] rfl)
  exact loop 4097 0 false (by omega) (by omega) ⟨fun z => (by cases z), fun ⟨t, h1, _⟩ => absurd h1 (Nat.not_lt_zero _)⟩ ls (lv_sub hl [0, 1, 2, 3, 4] rfl)

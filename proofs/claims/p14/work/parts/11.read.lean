/-! 11: reads of the class, versions and branches by their numbers (the walks are laid by wip/gen/cls11.py) -/
section KROWS2
variable {p : Program} {l : Launch} {e : Env} {R : Room} {s : State} {m : MethodId} {args : Array Value} {below : List Frame} {meth : Method} {c : Code} {H : Heap} {locs : List Loc} {cells slots : Nat} {Q : State → Prop}
variable {cc : ByteArray} {pc : Nat} {ls : Array Slot} {rest : List Value} {D : va_G} {g : Nat → ClassId} {a : Nat}
theorem k_aaldR (hexec : p.tables.exec = Jvm.exec) (hb : c.code = cc) (hK : KK D g s) (t0 : Nat) {C : String} {n : Nat} {f : Nat → Option Nat} {cA : ClassId} (ht : (ty6 g)[t0]? = some (cA, .object C)) (ho : HA D H a (eQ cA n f)) {i : Int32} (j : Nat) (hi : i = nI j) (hj : j < n) (hn : n < 2 ^ 31) {y : Nat} (hy : f j = some y) (hdg : decode cc pc = .ok (.aaload, 1))
    (kk : W p l e R s m args below meth c H locs cells slots Q (F0 m (pc + 1) ls (.ref y :: rest))) : W p l e R s m args below meth c H locs cells slots Q (F0 m pc ls (.int i :: .ref a :: rest)) :=
  k_aald hexec hb hK t0 ht ho j hi hj hn hdg (by rw [hy]; exact kk)
end KROWS2
theorem int_lt {i : Int32} {n : Nat} (h0 : ¬ i < 0) (h1 : ¬ nI n ≤ i) (hn : n < 2 ^ 31) : ∃ k, k < n ∧ i = nI k := by
  obtain ⟨k, hk, rfl⟩ := nI_of h0
  exact ⟨k, Nat.not_le.mp (fun z => h1 ((nI_leI hn hk).mpr z)), rfl⟩
theorem neg_lt {k : Nat} (hk : k < 2 ^ 31) : (-1) - nI k < 0 := by
  rw [Int32.lt_iff_toInt_lt, show (0 : Int32).toInt = 0 from by decide]
  have e : ((-1 : Int32) - nI k).toInt = -1 - (k : Int) := by
    rw [Int32.toInt_sub, nI_toInt hk, show (-1 : Int32).toInt = -1 from by decide, Int.bmod_eq_of_le (by omega) (by omega)]
  omega
theorem neg_neg1 (x : Int32) : (-1) - ((-1) - x) = x := by
  rw [Int32.sub_eq_add_neg, Int32.neg_sub, Int32.sub_eq_add_neg, Int32.add_comm x, ← Int32.add_assoc, Int32.add_right_neg, Int32.zero_add]
/-- where a version's change starts from: the code of the set, its words -/
def befC (σ : SG) (k : Nat) : Nat := match sF σ k with
  | none => 3
  | some p => 17 + 4 * p
def befW (σ : SG) (k : Nat) : Nat → Int64 := match sF σ k with
  | none => fun _ => 0
  | some p => sW σ p
theorem befC_0 {σ : SG} {k : Nat} (h : sF σ k = none) : befC σ k = 3 := by unfold befC; rw [h]
theorem befC_1 {σ : SG} {k p : Nat} (h : sF σ k = some p) : befC σ k = 17 + 4 * p := by unfold befC; rw [h]
theorem befW_0 {σ : SG} {k : Nat} (h : sF σ k = none) : befW σ k = fun _ => 0 := by unfold befW; rw [h]
theorem befW_1 {σ : SG} {k p : Nat} (h : sF σ k = some p) : befW σ k = sW σ p := by unfold befW; rw [h]
theorem WF.first {σ : SG} (h : WF σ) {k p : Nat} (hk : k < sV σ) (hp : sF σ k = some p) : p < k := (h.2.2.2.2.2 k hk).1 p hp
theorem WF.second {σ : SG} (h : WF σ) {k p : Nat} (hk : k < sV σ) (hp : sS σ k = some p) : p < k := (h.2.2.2.2.2 k hk).2.1 p hp
theorem CR.bef {D : va_G} {g : Nat → ClassId} {b0 : Nat} {A : Nat → Nat} {σ : SG} {dw : Nat → Int64} {H : Heap} (h : CR D g b0 A σ dw H) {k : Nat} (hk : k < sV σ) : HA D H (A (befC σ k)) (eO 1 [.ref (A (befC σ k + 1))]) ∧ HA D H (A (befC σ k + 1)) (eL (g 2) 64 (befW σ k)) ∧ cLive σ (befC σ k) ∧ cLive σ (befC σ k + 1) ∧ (befC σ k = 3 ∨ 17 ≤ befC σ k ∧ befC σ k < 16 + 4 * k) := by
  cases hf : sF σ k with
  | none =>
    rw [befC_0 hf, befW_0 hf]
    exact ⟨h.nt, h.nw, cl0 (by omega), cl0 (by omega), Or.inl rfl⟩
  | some p =>
    have hp := h.wf.first hk hf
    rw [befC_1 hf, befW_1 hf, show 17 + 4 * p + 1 = 18 + 4 * p by omega]
    exact ⟨h.ts (by omega), h.tw (by omega), clV p (by omega) (by omega) (by omega), clV p (by omega) (by omega) (by omega), Or.inr ⟨by omega, by omega⟩⟩
theorem CR.ver0 {D : va_G} {g : Nat → ClassId} {b0 : Nat} {A : Nat → Nat} {σ : SG} {dw : Nat → Int64} {H : Heap} (h : CR D g b0 A σ dw H) {k : Nat} (hk : k < sV σ) (hf : sF σ k = none) : HA D H (A (16 + 4 * k)) (eO 2 [.int (nI k), .null, va_rf (oA A (sS σ k)), .ref (A (17 + 4 * k)), .ref (A (19 + 4 * k))]) := by
  have := h.ver hk
  rw [hf] at this
  exact this
theorem CR.ver1 {D : va_G} {g : Nat → ClassId} {b0 : Nat} {A : Nat → Nat} {σ : SG} {dw : Nat → Int64} {H : Heap} (h : CR D g b0 A σ dw H) {k p : Nat} (hk : k < sV σ) (hf : sF σ k = some p) : HA D H (A (16 + 4 * k)) (eO 2 [.int (nI k), .ref (A (16 + 4 * p)), va_rf (oA A (sS σ k)), .ref (A (17 + 4 * k)), .ref (A (19 + 4 * k))]) := by
  have := h.ver hk
  rw [hf] at this
  exact this
theorem CR.verS0 {D : va_G} {g : Nat → ClassId} {b0 : Nat} {A : Nat → Nat} {σ : SG} {dw : Nat → Int64} {H : Heap} (h : CR D g b0 A σ dw H) {k : Nat} (hk : k < sV σ) (hf : sS σ k = none) : HA D H (A (16 + 4 * k)) (eO 2 [.int (nI k), va_rf (oA A (sF σ k)), .null, .ref (A (17 + 4 * k)), .ref (A (19 + 4 * k))]) := by
  have := h.ver hk
  rw [hf] at this
  exact this
theorem CR.verS1 {D : va_G} {g : Nat → ClassId} {b0 : Nat} {A : Nat → Nat} {σ : SG} {dw : Nat → Int64} {H : Heap} (h : CR D g b0 A σ dw H) {k p : Nat} (hk : k < sV σ) (hf : sS σ k = some p) : HA D H (A (16 + 4 * k)) (eO 2 [.int (nI k), va_rf (oA A (sF σ k)), .ref (A (16 + 4 * p)), .ref (A (17 + 4 * k)), .ref (A (19 + 4 * k))]) := by
  have := h.ver hk
  rw [hf] at this
  exact this
/-- the greatest common ancestor -/
def GC1 (σ : SG) (u v c : Nat) : Prop := c < 400 ∧ sA σ u c = true ∧ sA σ v c = true ∧ ∀ z, c < z → z < 400 → ¬ (sA σ u z = true ∧ sA σ v z = true)
def GC0 (σ : SG) (u v : Nat) : Prop := ∀ z, z < 400 → ¬ (sA σ u z = true ∧ sA σ v z = true)
theorem WF.gc1 {σ : SG} (h : WF σ) {u v c : Nat} (hu : u < sV σ) (hc : GC1 σ u v c) : c ≤ u := h.anc (u + 1) u (by omega) hu c hc.1 hc.2.1
theorem nI_min (u v : Nat) (hu : u < 2 ^ 31) (hv : v < 2 ^ 31) : (if nI v < nI u then nI v else nI u) = nI (min u v) := by
  by_cases h : v < u
  · rw [if_pos ((nI_ltI hv hu).mpr h), Nat.min_eq_right (by omega)]
  · rw [if_neg (fun z => h ((nI_ltI hv hu).mp z)), Nat.min_eq_left (by omega)]
theorem nbeq_t {a b : Bool} (h : ¬ a = b) : (!(a == b)) = true := by cases a <;> cases b <;> first | rfl | exact absurd rfl h
theorem nbeq_f {a b : Bool} (h : a = b) : (!(a == b)) = false := by subst h; cases a <;> rfl
set_option maxHeartbeats 4000000 in
set_option maxRecDepth 100000 in
/-- branchAt(k): there is one -/
theorem c_X3_branchAt_y (l : Launch) (D : va_G) (g : Nat → ClassId) (b0 : Nat) (H : Heap) (A : Nat → Nat) (σ : SG) (dw : Nat → Int64) (hC : CR D g b0 A σ dw H) (k : Nat) (hk : k < sB σ) : Met l yX3_branchAt wsX3_branchAt ({ frames := 0, cells := 0, slots := 0, locals := 0 } : Room) (kPc D g [.ref (A 0), .int (nI k)] H) (kX (.ref (A (2000 + k))) H) 0 0 kN := by
  refine Met.ofW (cc := cX3_branchAt) (maxL := 2) (ret := (some (.object "VersionMerge$Branch"))) (by decide) rfl ?_
  intro p e s m args below meth c s₁ B hml hv
  obtain ⟨rfl, hH, hK⟩ := hv
  have hx := B.exec
  have hb := B.bytes
  have hr := B.returns
  have hts := atoms_spec (ws := wsX3_branchAt) B.pre
  have hown : s.vm.findClass RX3 = some m.cls := findClass_of_methodNamed B.named
  have hlocks := B.notSynchronized
  rw [hH]
  have hl := lv_entry ([.ref (A 0), .int (nI k)]) (n := 2) (Nat.le_of_ble_eq_true rfl)
  rw [lg_entry_eq]
  generalize (lg_sl ([.ref (A 0), .int (nI k)]) ++ List.replicate (2 - (lg_sl ([.ref (A 0), .int (nI k)])).length) Slot.unset).toArray = ls at hl ⊢
  have hl : lv_has ls 2 [(0, .ref (A 0)), (1, .int (nI k))] := hl
  have hVB := hC.wf
  have hV4 : sV σ ≤ 400 := hVB.2.1
  have hB4 : sB σ ≤ 40 := hVB.2.2.2.1
  refine lv_iload_n hx hb dX3_branchAt_0 rfl (lv_at hl 1 rfl) ?_
  refine n_if_lt (tgt := 18) hx hb dX3_branchAt_1 (by decide) (by omega) ?_
  refine lv_iload_n hx hb dX3_branchAt_4 rfl (lv_at hl 1 rfl) ?_
  refine lv_aload_n hx hb dX3_branchAt_5 rfl (lv_at hl 0 rfl) ?_
  refine k_get (ci := 3) (C := RX3) (T := TX3) (N := 7) (v := .int (nI (sB σ))) hx hb hts (by decide +kernel) hown hK hC.o rfl 3 (by decide) rfl (hts (.fieldLink RX3 46 RX3 "branchCount" "I") (by decide +kernel)) rfl dX3_branchAt_6 ?_
  refine n_icmp_ge (tgt := 18) hx hb dX3_branchAt_9 (by decide) (by omega) (by omega) (fun c_530 => ?_) (fun c_530 => ?_)
  · skip
    refine lv_null hx hb dX3_branchAt_18 ?_
    exact absurd hk (by omega)
  · skip
    refine lv_iload_n hx hb dX3_branchAt_12 rfl (lv_at hl 1 rfl) ?_
    refine lv_bipush (v := nI 40) hx hb dX3_branchAt_13 (by decide +kernel) ?_
    refine n_icmp_lt (tgt := 20) hx hb dX3_branchAt_15 (by decide) (by omega) (by omega) (fun c_531 => ?_) (fun c_531 => ?_)
    · skip
      refine lv_aload_n hx hb dX3_branchAt_20 rfl (lv_at hl 0 rfl) ?_
      refine k_get (ci := 3) (C := RX3) (T := TX3) (N := 7) (v := .ref (A 2)) hx hb hts (by decide +kernel) hown hK hC.o rfl 1 (by decide) rfl (hts (.fieldLink RX3 17 RX3 "branchRow" "[LVersionMerge$Branch;") (by decide +kernel)) rfl dX3_branchAt_21 ?_
      refine lv_iload_n hx hb dX3_branchAt_24 rfl (lv_at hl 1 rfl) ?_
      refine k_aaldR hx hb hK 4 rfl hC.br k rfl (by omega) (by omega) (y := A (2000 + k)) (if_pos hk) dX3_branchAt_25 ?_
      exact r_aX hx hb hr (Or.inr ⟨_, rfl⟩) dX3_branchAt_26 hlocks
    · skip
      refine lv_null hx hb dX3_branchAt_18 ?_
      exact absurd hk (by omega)
set_option maxHeartbeats 4000000 in
set_option maxRecDepth 100000 in
/-- branchAt(i): there is none -/
theorem c_X3_branchAt_n (l : Launch) (D : va_G) (g : Nat → ClassId) (b0 : Nat) (H : Heap) (A : Nat → Nat) (σ : SG) (dw : Nat → Int64) (hC : CR D g b0 A σ dw H) (i : Int32) (hi : ∀ k, k < sB σ → ¬ i = nI k) : Met l yX3_branchAt wsX3_branchAt ({ frames := 0, cells := 0, slots := 0, locals := 0 } : Room) (kPc D g [.ref (A 0), .int (i)] H) (kX .null H) 0 0 kN := by
  refine Met.ofW (cc := cX3_branchAt) (maxL := 2) (ret := (some (.object "VersionMerge$Branch"))) (by decide) rfl ?_
  intro p e s m args below meth c s₁ B hml hv
  obtain ⟨rfl, hH, hK⟩ := hv
  have hx := B.exec
  have hb := B.bytes
  have hr := B.returns
  have hts := atoms_spec (ws := wsX3_branchAt) B.pre
  have hown : s.vm.findClass RX3 = some m.cls := findClass_of_methodNamed B.named
  have hlocks := B.notSynchronized
  rw [hH]
  have hl := lv_entry ([.ref (A 0), .int (i)]) (n := 2) (Nat.le_of_ble_eq_true rfl)
  rw [lg_entry_eq]
  generalize (lg_sl ([.ref (A 0), .int (i)]) ++ List.replicate (2 - (lg_sl ([.ref (A 0), .int (i)])).length) Slot.unset).toArray = ls at hl ⊢
  have hl : lv_has ls 2 [(0, .ref (A 0)), (1, .int (i))] := hl
  have hVB := hC.wf
  have hV4 : sV σ ≤ 400 := hVB.2.1
  have hB4 : sB σ ≤ 40 := hVB.2.2.2.1
  refine lv_iload_n hx hb dX3_branchAt_0 rfl (lv_at hl 1 rfl) ?_
  refine lv_if_lt (tgt := 18) hx hb dX3_branchAt_1 (by decide) (fun c_532 => ?_) (fun c_532 => ?_)
  · skip
    refine lv_null hx hb dX3_branchAt_18 ?_
    exact r_aX hx hb hr (Or.inl rfl) dX3_branchAt_19 hlocks
  · skip
    refine lv_iload_n hx hb dX3_branchAt_4 rfl (lv_at hl 1 rfl) ?_
    refine lv_aload_n hx hb dX3_branchAt_5 rfl (lv_at hl 0 rfl) ?_
    refine k_get (ci := 3) (C := RX3) (T := TX3) (N := 7) (v := .int (nI (sB σ))) hx hb hts (by decide +kernel) hown hK hC.o rfl 3 (by decide) rfl (hts (.fieldLink RX3 46 RX3 "branchCount" "I") (by decide +kernel)) rfl dX3_branchAt_6 ?_
    refine lv_icmp_ge (tgt := 18) hx hb dX3_branchAt_9 (by decide) (fun c_533 => ?_) (fun c_533 => ?_)
    · skip
      refine lv_null hx hb dX3_branchAt_18 ?_
      exact r_aX hx hb hr (Or.inl rfl) dX3_branchAt_19 hlocks
    · skip
      obtain ⟨k, hk, e⟩ := int_lt c_532 c_533 (by omega)
      exact absurd e (hi k hk)
set_option maxHeartbeats 4000000 in
set_option maxRecDepth 100000 in
/-- versionAt(k): there is one -/
theorem c_X3_versionAt_y (l : Launch) (D : va_G) (g : Nat → ClassId) (b0 : Nat) (H : Heap) (A : Nat → Nat) (σ : SG) (dw : Nat → Int64) (hC : CR D g b0 A σ dw H) (k : Nat) (hk : k < sV σ) : Met l yX3_versionAt wsX3_versionAt ({ frames := 0, cells := 0, slots := 0, locals := 0 } : Room) (kPc D g [.ref (A 0), .int (nI k)] H) (kX (.ref (A (16 + 4 * k))) H) 0 0 kN := by
  refine Met.ofW (cc := cX3_versionAt) (maxL := 2) (ret := (some (.object "VersionMerge$Version"))) (by decide) rfl ?_
  intro p e s m args below meth c s₁ B hml hv
  obtain ⟨rfl, hH, hK⟩ := hv
  have hx := B.exec
  have hb := B.bytes
  have hr := B.returns
  have hts := atoms_spec (ws := wsX3_versionAt) B.pre
  have hown : s.vm.findClass RX3 = some m.cls := findClass_of_methodNamed B.named
  have hlocks := B.notSynchronized
  rw [hH]
  have hl := lv_entry ([.ref (A 0), .int (nI k)]) (n := 2) (Nat.le_of_ble_eq_true rfl)
  rw [lg_entry_eq]
  generalize (lg_sl ([.ref (A 0), .int (nI k)]) ++ List.replicate (2 - (lg_sl ([.ref (A 0), .int (nI k)])).length) Slot.unset).toArray = ls at hl ⊢
  have hl : lv_has ls 2 [(0, .ref (A 0)), (1, .int (nI k))] := hl
  have hVB := hC.wf
  have hV4 : sV σ ≤ 400 := hVB.2.1
  have hB4 : sB σ ≤ 40 := hVB.2.2.2.1
  refine lv_iload_n hx hb dX3_versionAt_0 rfl (lv_at hl 1 rfl) ?_
  refine n_if_lt (tgt := 19) hx hb dX3_versionAt_1 (by decide) (by omega) ?_
  refine lv_iload_n hx hb dX3_versionAt_4 rfl (lv_at hl 1 rfl) ?_
  refine lv_aload_n hx hb dX3_versionAt_5 rfl (lv_at hl 0 rfl) ?_
  refine k_get (ci := 3) (C := RX3) (T := TX3) (N := 7) (v := .int (nI (sV σ))) hx hb hts (by decide +kernel) hown hK hC.o rfl 2 (by decide) rfl (hts (.fieldLink RX3 146 RX3 "versionCount" "I") (by decide +kernel)) rfl dX3_versionAt_6 ?_
  refine n_icmp_ge (tgt := 19) hx hb dX3_versionAt_9 (by decide) (by omega) (by omega) (fun c_535 => ?_) (fun c_535 => ?_)
  · skip
    refine lv_null hx hb dX3_versionAt_19 ?_
    exact absurd hk (by omega)
  · skip
    refine lv_iload_n hx hb dX3_versionAt_12 rfl (lv_at hl 1 rfl) ?_
    refine lv_sipush (v := nI 400) hx hb dX3_versionAt_13 (by decide +kernel) ?_
    refine n_icmp_lt (tgt := 21) hx hb dX3_versionAt_16 (by decide) (by omega) (by omega) (fun c_536 => ?_) (fun c_536 => ?_)
    · skip
      refine lv_aload_n hx hb dX3_versionAt_21 rfl (lv_at hl 0 rfl) ?_
      refine k_get (ci := 3) (C := RX3) (T := TX3) (N := 7) (v := .ref (A 1)) hx hb hts (by decide +kernel) hown hK hC.o rfl 0 (by decide) rfl (hts (.fieldLink RX3 11 RX3 "versionRow" "[LVersionMerge$Version;") (by decide +kernel)) rfl dX3_versionAt_22 ?_
      refine lv_iload_n hx hb dX3_versionAt_25 rfl (lv_at hl 1 rfl) ?_
      refine k_aaldR hx hb hK 5 rfl hC.vr k rfl (by omega) (by omega) (y := A (16 + 4 * k)) (if_pos hk) dX3_versionAt_26 ?_
      exact r_aX hx hb hr (Or.inr ⟨_, rfl⟩) dX3_versionAt_27 hlocks
    · skip
      refine lv_null hx hb dX3_versionAt_19 ?_
      exact absurd hk (by omega)
set_option maxHeartbeats 4000000 in
set_option maxRecDepth 100000 in
/-- versionAt(i): there is none -/
theorem c_X3_versionAt_n (l : Launch) (D : va_G) (g : Nat → ClassId) (b0 : Nat) (H : Heap) (A : Nat → Nat) (σ : SG) (dw : Nat → Int64) (hC : CR D g b0 A σ dw H) (i : Int32) (hi : ∀ k, k < sV σ → ¬ i = nI k) : Met l yX3_versionAt wsX3_versionAt ({ frames := 0, cells := 0, slots := 0, locals := 0 } : Room) (kPc D g [.ref (A 0), .int (i)] H) (kX .null H) 0 0 kN := by
  refine Met.ofW (cc := cX3_versionAt) (maxL := 2) (ret := (some (.object "VersionMerge$Version"))) (by decide) rfl ?_
  intro p e s m args below meth c s₁ B hml hv
  obtain ⟨rfl, hH, hK⟩ := hv
  have hx := B.exec
  have hb := B.bytes
  have hr := B.returns
  have hts := atoms_spec (ws := wsX3_versionAt) B.pre
  have hown : s.vm.findClass RX3 = some m.cls := findClass_of_methodNamed B.named
  have hlocks := B.notSynchronized
  rw [hH]
  have hl := lv_entry ([.ref (A 0), .int (i)]) (n := 2) (Nat.le_of_ble_eq_true rfl)
  rw [lg_entry_eq]
  generalize (lg_sl ([.ref (A 0), .int (i)]) ++ List.replicate (2 - (lg_sl ([.ref (A 0), .int (i)])).length) Slot.unset).toArray = ls at hl ⊢
  have hl : lv_has ls 2 [(0, .ref (A 0)), (1, .int (i))] := hl
  have hVB := hC.wf
  have hV4 : sV σ ≤ 400 := hVB.2.1
  have hB4 : sB σ ≤ 40 := hVB.2.2.2.1
  refine lv_iload_n hx hb dX3_versionAt_0 rfl (lv_at hl 1 rfl) ?_
  refine lv_if_lt (tgt := 19) hx hb dX3_versionAt_1 (by decide) (fun c_537 => ?_) (fun c_537 => ?_)
  · skip
    refine lv_null hx hb dX3_versionAt_19 ?_
    exact r_aX hx hb hr (Or.inl rfl) dX3_versionAt_20 hlocks
  · skip
    refine lv_iload_n hx hb dX3_versionAt_4 rfl (lv_at hl 1 rfl) ?_
    refine lv_aload_n hx hb dX3_versionAt_5 rfl (lv_at hl 0 rfl) ?_
    refine k_get (ci := 3) (C := RX3) (T := TX3) (N := 7) (v := .int (nI (sV σ))) hx hb hts (by decide +kernel) hown hK hC.o rfl 2 (by decide) rfl (hts (.fieldLink RX3 146 RX3 "versionCount" "I") (by decide +kernel)) rfl dX3_versionAt_6 ?_
    refine lv_icmp_ge (tgt := 19) hx hb dX3_versionAt_9 (by decide) (fun c_538 => ?_) (fun c_538 => ?_)
    · skip
      refine lv_null hx hb dX3_versionAt_19 ?_
      exact r_aX hx hb hr (Or.inl rfl) dX3_versionAt_20 hlocks
    · skip
      obtain ⟨k, hk, e⟩ := int_lt c_537 c_538 (by omega)
      exact absurd e (hi k hk)
set_option maxHeartbeats 4000000 in
set_option maxRecDepth 100000 in
theorem c_X3_changedBy_y1 (l : Launch) (D : va_G) (g : Nat → ClassId) (b0 : Nat) (H : Heap) (A : Nat → Nat) (σ : SG) (dw : Nat → Int64) (hC : CR D g b0 A σ dw H) (k : Nat) (hk : k < sV σ) : Met l yX3_changedBy wsX3_changedBy ({ frames := 1, cells := 0, slots := 0, locals := 21 } : Room) (kPc D g [.ref (A 0), .int (nI k)] H) (kX (.ref (A (16 + 4 * k))) H) 0 0 kN := by
  refine Met.ofW (cc := cX3_changedBy) (maxL := 2) (ret := (some (.object "VersionMerge$Version"))) (by decide) rfl ?_
  intro p e s m args below meth c s₁ B hml hv
  obtain ⟨rfl, hH, hK⟩ := hv
  have hx := B.exec
  have hb := B.bytes
  have hr := B.returns
  have hts := atoms_spec (ws := wsX3_changedBy) B.pre
  have hown : s.vm.findClass RX3 = some m.cls := findClass_of_methodNamed B.named
  have hlocks := B.notSynchronized
  rw [hH]
  have hl := lv_entry ([.ref (A 0), .int (nI k)]) (n := 2) (Nat.le_of_ble_eq_true rfl)
  rw [lg_entry_eq]
  generalize (lg_sl ([.ref (A 0), .int (nI k)]) ++ List.replicate (2 - (lg_sl ([.ref (A 0), .int (nI k)])).length) Slot.unset).toArray = ls at hl ⊢
  have hl : lv_has ls 2 [(0, .ref (A 0)), (1, .int (nI k))] := hl
  have hVB := hC.wf
  have hV4 : sV σ ≤ 400 := hVB.2.1
  have hB4 : sB σ ≤ 40 := hVB.2.2.2.1
  refine lv_aload_n hx hb dX3_changedBy_0 rfl (lv_at hl 0 rfl) ?_
  refine lv_iload_n hx hb dX3_changedBy_1 rfl (lv_at hl 1 rfl) ?_
  refine n_if_lt (tgt := 9) hx hb dX3_changedBy_2 (by decide) (by omega) ?_
  refine lv_iload_n hx hb dX3_changedBy_5 rfl (lv_at hl 1 rfl) ?_
  refine lv_goto (tgt := 13) hx hb dX3_changedBy_6 (by decide) ?_
  refine k_callX (va_runV (As := [.int (nI k)]) (rest := []) ⟨hx, hb, hml, hown, hts⟩ (c_X3_versionAt_y l D g b0 H A σ dw hC k hk) (cwV 1 hts gX3_changedBy_X3_versionAt rfl rfl rfl (by decide +kernel) ⟨Nat.le_of_ble_eq_true rfl, Nat.le_of_ble_eq_true rfl⟩) ⟨kPc_blind, k_recv hK hC.o rfl, fun U hU hW => kPc_at hK hU hW⟩ rfl rfl hl.1 rfl (lv_room (Nat.le_of_ble_eq_true rfl)) dX3_changedBy_13 ⟨Nat.le_of_ble_eq_true rfl, Nat.le_of_ble_eq_true rfl⟩) ?_
  exact r_aX hx hb hr (Or.inr ⟨_, rfl⟩) dX3_changedBy_16 hlocks
set_option maxHeartbeats 4000000 in
set_option maxRecDepth 100000 in
theorem c_X3_changedBy_y2 (l : Launch) (D : va_G) (g : Nat → ClassId) (b0 : Nat) (H : Heap) (A : Nat → Nat) (σ : SG) (dw : Nat → Int64) (hC : CR D g b0 A σ dw H) (k : Nat) (hk : k < sV σ) : Met l yX3_changedBy wsX3_changedBy ({ frames := 1, cells := 0, slots := 0, locals := 21 } : Room) (kPc D g [.ref (A 0), .int ((-1) - nI k)] H) (kX (.ref (A (16 + 4 * k))) H) 0 0 kN := by
  refine Met.ofW (cc := cX3_changedBy) (maxL := 2) (ret := (some (.object "VersionMerge$Version"))) (by decide) rfl ?_
  intro p e s m args below meth c s₁ B hml hv
  obtain ⟨rfl, hH, hK⟩ := hv
  have hx := B.exec
  have hb := B.bytes
  have hr := B.returns
  have hts := atoms_spec (ws := wsX3_changedBy) B.pre
  have hown : s.vm.findClass RX3 = some m.cls := findClass_of_methodNamed B.named
  have hlocks := B.notSynchronized
  rw [hH]
  have hl := lv_entry ([.ref (A 0), .int ((-1) - nI k)]) (n := 2) (Nat.le_of_ble_eq_true rfl)
  rw [lg_entry_eq]
  generalize (lg_sl ([.ref (A 0), .int ((-1) - nI k)]) ++ List.replicate (2 - (lg_sl ([.ref (A 0), .int ((-1) - nI k)])).length) Slot.unset).toArray = ls at hl ⊢
  have hl : lv_has ls 2 [(0, .ref (A 0)), (1, .int ((-1) - nI k))] := hl
  have hVB := hC.wf
  have hV4 : sV σ ≤ 400 := hVB.2.1
  have hB4 : sB σ ≤ 40 := hVB.2.2.2.1
  refine lv_aload_n hx hb dX3_changedBy_0 rfl (lv_at hl 0 rfl) ?_
  refine lv_iload_n hx hb dX3_changedBy_1 rfl (lv_at hl 1 rfl) ?_
  refine lv_if_lt (tgt := 9) hx hb dX3_changedBy_2 (by decide) (fun c_540 => ?_) (fun c_540 => ?_)
  · skip
    refine lv_iload_n hx hb dX3_changedBy_9 rfl (lv_at hl 1 rfl) ?_
    refine k_callX (va_runS (As := [.int ((-1) - nI k)]) (rest := [.ref (A 0)]) ⟨hx, hb, hml, hown, hts⟩ (c_X3_turnedRound l D g H ((-1) - nI k)) (va_cwS 1 hts gX3_changedBy_X3_turnedRound rfl rfl rfl (by decide +kernel) ⟨Nat.le_of_ble_eq_true rfl, Nat.le_of_ble_eq_true rfl⟩) ⟨kPc_blind, fun U hU hW => kPc_at hK hU hW⟩ rfl rfl hl.1 rfl (lv_room (Nat.le_of_ble_eq_true rfl)) dX3_changedBy_10 ⟨Nat.le_of_ble_eq_true rfl, Nat.le_of_ble_eq_true rfl⟩) ?_
    rw [neg_neg1]
    refine k_callX (va_runV (As := [.int (nI k)]) (rest := []) ⟨hx, hb, hml, hown, hts⟩ (c_X3_versionAt_y l D g b0 H A σ dw hC k hk) (cwV 1 hts gX3_changedBy_X3_versionAt rfl rfl rfl (by decide +kernel) ⟨Nat.le_of_ble_eq_true rfl, Nat.le_of_ble_eq_true rfl⟩) ⟨kPc_blind, k_recv hK hC.o rfl, fun U hU hW => kPc_at hK hU hW⟩ rfl rfl hl.1 rfl (lv_room (Nat.le_of_ble_eq_true rfl)) dX3_changedBy_13 ⟨Nat.le_of_ble_eq_true rfl, Nat.le_of_ble_eq_true rfl⟩) ?_
    exact r_aX hx hb hr (Or.inr ⟨_, rfl⟩) dX3_changedBy_16 hlocks
  · skip
    exact absurd (neg_lt (by omega)) c_540
set_option maxHeartbeats 4000000 in
set_option maxRecDepth 100000 in
theorem c_X3_changedBy_n (l : Launch) (D : va_G) (g : Nat → ClassId) (b0 : Nat) (H : Heap) (A : Nat → Nat) (σ : SG) (dw : Nat → Int64) (hC : CR D g b0 A σ dw H) (i : Int32) (h1 : ∀ k, k < sV σ → ¬ i = nI k) (h2 : ∀ k, k < sV σ → ¬ i = (-1) - nI k) : Met l yX3_changedBy wsX3_changedBy ({ frames := 1, cells := 0, slots := 0, locals := 21 } : Room) (kPc D g [.ref (A 0), .int (i)] H) (kX .null H) 0 0 kN := by
  refine Met.ofW (cc := cX3_changedBy) (maxL := 2) (ret := (some (.object "VersionMerge$Version"))) (by decide) rfl ?_
  intro p e s m args below meth c s₁ B hml hv
  obtain ⟨rfl, hH, hK⟩ := hv
  have hx := B.exec
  have hb := B.bytes
  have hr := B.returns
  have hts := atoms_spec (ws := wsX3_changedBy) B.pre
  have hown : s.vm.findClass RX3 = some m.cls := findClass_of_methodNamed B.named
  have hlocks := B.notSynchronized
  rw [hH]
  have hl := lv_entry ([.ref (A 0), .int (i)]) (n := 2) (Nat.le_of_ble_eq_true rfl)
  rw [lg_entry_eq]
  generalize (lg_sl ([.ref (A 0), .int (i)]) ++ List.replicate (2 - (lg_sl ([.ref (A 0), .int (i)])).length) Slot.unset).toArray = ls at hl ⊢
  have hl : lv_has ls 2 [(0, .ref (A 0)), (1, .int (i))] := hl
  have hVB := hC.wf
  have hV4 : sV σ ≤ 400 := hVB.2.1
  have hB4 : sB σ ≤ 40 := hVB.2.2.2.1
  refine lv_aload_n hx hb dX3_changedBy_0 rfl (lv_at hl 0 rfl) ?_
  refine lv_iload_n hx hb dX3_changedBy_1 rfl (lv_at hl 1 rfl) ?_
  refine lv_if_lt (tgt := 9) hx hb dX3_changedBy_2 (by decide) (fun c_541 => ?_) (fun c_541 => ?_)
  · skip
    refine lv_iload_n hx hb dX3_changedBy_9 rfl (lv_at hl 1 rfl) ?_
    refine k_callX (va_runS (As := [.int (i)]) (rest := [.ref (A 0)]) ⟨hx, hb, hml, hown, hts⟩ (c_X3_turnedRound l D g H i) (va_cwS 1 hts gX3_changedBy_X3_turnedRound rfl rfl rfl (by decide +kernel) ⟨Nat.le_of_ble_eq_true rfl, Nat.le_of_ble_eq_true rfl⟩) ⟨kPc_blind, fun U hU hW => kPc_at hK hU hW⟩ rfl rfl hl.1 rfl (lv_room (Nat.le_of_ble_eq_true rfl)) dX3_changedBy_10 ⟨Nat.le_of_ble_eq_true rfl, Nat.le_of_ble_eq_true rfl⟩) ?_
    refine k_callX (va_runV (As := [.int ((-1) - i)]) (rest := []) ⟨hx, hb, hml, hown, hts⟩ (c_X3_versionAt_n l D g b0 H A σ dw hC ((-1) - i) (fun k hk e => h2 k hk (by rw [← e, neg_neg1]))) (cwV 1 hts gX3_changedBy_X3_versionAt rfl rfl rfl (by decide +kernel) ⟨Nat.le_of_ble_eq_true rfl, Nat.le_of_ble_eq_true rfl⟩) ⟨kPc_blind, k_recv hK hC.o rfl, fun U hU hW => kPc_at hK hU hW⟩ rfl rfl hl.1 rfl (lv_room (Nat.le_of_ble_eq_true rfl)) dX3_changedBy_13 ⟨Nat.le_of_ble_eq_true rfl, Nat.le_of_ble_eq_true rfl⟩) ?_
    exact r_aX hx hb hr (Or.inl rfl) dX3_changedBy_16 hlocks
  · skip
    refine lv_iload_n hx hb dX3_changedBy_5 rfl (lv_at hl 1 rfl) ?_
    refine lv_goto (tgt := 13) hx hb dX3_changedBy_6 (by decide) ?_
    refine k_callX (va_runV (As := [.int (i)]) (rest := []) ⟨hx, hb, hml, hown, hts⟩ (c_X3_versionAt_n l D g b0 H A σ dw hC i h1) (cwV 1 hts gX3_changedBy_X3_versionAt rfl rfl rfl (by decide +kernel) ⟨Nat.le_of_ble_eq_true rfl, Nat.le_of_ble_eq_true rfl⟩) ⟨kPc_blind, k_recv hK hC.o rfl, fun U hU hW => kPc_at hK hU hW⟩ rfl rfl hl.1 rfl (lv_room (Nat.le_of_ble_eq_true rfl)) dX3_changedBy_13 ⟨Nat.le_of_ble_eq_true rfl, Nat.le_of_ble_eq_true rfl⟩) ?_
    exact r_aX hx hb hr (Or.inl rfl) dX3_changedBy_16 hlocks
set_option maxHeartbeats 4000000 in
set_option maxRecDepth 100000 in
theorem c_X3_setBefore_0 (l : Launch) (D : va_G) (g : Nat → ClassId) (b0 : Nat) (H : Heap) (A : Nat → Nat) (σ : SG) (dw : Nat → Int64) (hC : CR D g b0 A σ dw H) (k : Nat) (hk : k < sV σ) (hf : sF σ k = none) : Met l yX3_setBefore wsX3_setBefore ({ frames := 0, cells := 0, slots := 0, locals := 0 } : Room) (kPc D g [.ref (A 0), .ref (A (16 + 4 * k))] H) (kX (.ref (A 3)) H) 0 0 kN := by
  refine Met.ofW (cc := cX3_setBefore) (maxL := 2) (ret := (some (.object "VersionMerge$TripleSet"))) (by decide) rfl ?_
  intro p e s m args below meth c s₁ B hml hv
  obtain ⟨rfl, hH, hK⟩ := hv
  have hx := B.exec
  have hb := B.bytes
  have hr := B.returns
  have hts := atoms_spec (ws := wsX3_setBefore) B.pre
  have hown : s.vm.findClass RX3 = some m.cls := findClass_of_methodNamed B.named
  have hlocks := B.notSynchronized
  rw [hH]
  have hl := lv_entry ([.ref (A 0), .ref (A (16 + 4 * k))]) (n := 2) (Nat.le_of_ble_eq_true rfl)
  rw [lg_entry_eq]
  generalize (lg_sl ([.ref (A 0), .ref (A (16 + 4 * k))]) ++ List.replicate (2 - (lg_sl ([.ref (A 0), .ref (A (16 + 4 * k))])).length) Slot.unset).toArray = ls at hl ⊢
  have hl : lv_has ls 2 [(0, .ref (A 0)), (1, .ref (A (16 + 4 * k)))] := hl
  have hVB := hC.wf
  have hV4 : sV σ ≤ 400 := hVB.2.1
  have hB4 : sB σ ≤ 40 := hVB.2.2.2.1
  refine lv_aload_n hx hb dX3_setBefore_0 rfl (lv_at hl 1 rfl) ?_
  refine k_getN (ci := 2) (C := RX2) (T := TX2) (N := 5) (v := .null) hx hb hts (by decide +kernel) hown hK (hC.ver0 hk hf) rfl 1 (by decide) rfl (List.mem_of_getElem? (i := 1) rfl) rfl dX3_setBefore_1 ?_
  refine lv_ifnonnullN hx hb dX3_setBefore_4 ?_
  refine lv_aload_n hx hb dX3_setBefore_7 rfl (lv_at hl 0 rfl) ?_
  refine k_get (ci := 3) (C := RX3) (T := TX3) (N := 7) (v := .ref (A 3)) hx hb hts (by decide +kernel) hown hK hC.o rfl 4 (by decide) rfl (hts (.fieldLink RX3 24 RX3 "nothing" "LVersionMerge$TripleSet;") (by decide +kernel)) rfl dX3_setBefore_8 ?_
  refine lv_goto (tgt := 21) hx hb dX3_setBefore_11 (by decide) ?_
  exact r_aX hx hb hr (Or.inr ⟨_, rfl⟩) dX3_setBefore_21 hlocks
set_option maxHeartbeats 4000000 in
set_option maxRecDepth 100000 in
theorem c_X3_setBefore_1 (l : Launch) (D : va_G) (g : Nat → ClassId) (b0 : Nat) (H : Heap) (A : Nat → Nat) (σ : SG) (dw : Nat → Int64) (hC : CR D g b0 A σ dw H) (k : Nat) (hk : k < sV σ) (p1 : Nat) (hf : sF σ k = some p1) : Met l yX3_setBefore wsX3_setBefore ({ frames := 0, cells := 0, slots := 0, locals := 0 } : Room) (kPc D g [.ref (A 0), .ref (A (16 + 4 * k))] H) (kX (.ref (A (17 + 4 * p1))) H) 0 0 kN := by
  refine Met.ofW (cc := cX3_setBefore) (maxL := 2) (ret := (some (.object "VersionMerge$TripleSet"))) (by decide) rfl ?_
  intro p e s m args below meth c s₁ B hml hv
  obtain ⟨rfl, hH, hK⟩ := hv
  have hx := B.exec
  have hb := B.bytes
  have hr := B.returns
  have hts := atoms_spec (ws := wsX3_setBefore) B.pre
  have hown : s.vm.findClass RX3 = some m.cls := findClass_of_methodNamed B.named
  have hlocks := B.notSynchronized
  rw [hH]
  have hl := lv_entry ([.ref (A 0), .ref (A (16 + 4 * k))]) (n := 2) (Nat.le_of_ble_eq_true rfl)
  rw [lg_entry_eq]
  generalize (lg_sl ([.ref (A 0), .ref (A (16 + 4 * k))]) ++ List.replicate (2 - (lg_sl ([.ref (A 0), .ref (A (16 + 4 * k))])).length) Slot.unset).toArray = ls at hl ⊢
  have hl : lv_has ls 2 [(0, .ref (A 0)), (1, .ref (A (16 + 4 * k)))] := hl
  have hVB := hC.wf
  have hV4 : sV σ ≤ 400 := hVB.2.1
  have hB4 : sB σ ≤ 40 := hVB.2.2.2.1
  have hp1 := hVB.first hk hf
  refine lv_aload_n hx hb dX3_setBefore_0 rfl (lv_at hl 1 rfl) ?_
  refine k_getN (ci := 2) (C := RX2) (T := TX2) (N := 5) (v := .ref (A (16 + 4 * p1))) hx hb hts (by decide +kernel) hown hK (hC.ver1 hk hf) rfl 1 (by decide) rfl (List.mem_of_getElem? (i := 1) rfl) rfl dX3_setBefore_1 ?_
  refine lv_ifnonnull (tgt := 14) hx hb dX3_setBefore_4 (by decide) ?_
  refine lv_aload_n hx hb dX3_setBefore_14 rfl (lv_at hl 1 rfl) ?_
  refine k_getN (ci := 2) (C := RX2) (T := TX2) (N := 5) (v := .ref (A (16 + 4 * p1))) hx hb hts (by decide +kernel) hown hK (hC.ver1 hk hf) rfl 1 (by decide) rfl (List.mem_of_getElem? (i := 1) rfl) rfl dX3_setBefore_15 ?_
  refine k_getN (ci := 2) (C := RX2) (T := TX2) (N := 5) (v := .ref (A (17 + 4 * p1))) hx hb hts (by decide +kernel) hown hK (hC.ver (show p1 < sV σ by omega)) rfl 3 (by decide) rfl (List.mem_of_getElem? (i := 3) rfl) rfl dX3_setBefore_18 ?_
  exact r_aX hx hb hr (Or.inr ⟨_, rfl⟩) dX3_setBefore_21 hlocks
theorem c_X3_setBefore (l : Launch) (D : va_G) (g : Nat → ClassId) (b0 : Nat) (H : Heap) (A : Nat → Nat) (σ : SG) (dw : Nat → Int64) (hC : CR D g b0 A σ dw H) (k : Nat) (hk : k < sV σ) : Met l yX3_setBefore wsX3_setBefore ({ frames := 0, cells := 0, slots := 0, locals := 0 } : Room) (kPc D g [.ref (A 0), .ref (A (16 + 4 * k))] H) (kX (.ref (A (befC σ k))) H) 0 0 kN := by
  cases hf : sF σ k with
  | none =>
    rw [befC_0 hf]
    exact c_X3_setBefore_0 l D g b0 H A σ dw hC k hk hf
  | some p1 =>
    rw [befC_1 hf]
    exact c_X3_setBefore_1 l D g b0 H A σ dw hC k hk p1 hf
set_option maxHeartbeats 4000000 in
set_option maxRecDepth 100000 in
theorem c_X3_changes (l : Launch) (D : va_G) (g : Nat → ClassId) (b0 : Nat) (H : Heap) (A : Nat → Nat) (σ : SG) (dw : Nat → Int64) (hC : CR D g b0 A σ dw H) (k : Nat) (hk : k < sV σ) (t : Nat) (ht : t < 4096) : Met l yX3_changes wsX3_changes ({ frames := 2, cells := 0, slots := 0, locals := 41 } : Room) (kPc D g [.ref (A 0), .ref (A (16 + 4 * k)), .int (nI t)] H) (kX (.int (b2i (!(bt (sW σ k) t == bt (befW σ k) t)))) H) 0 0 kN := by
  refine Met.ofW (cc := cX3_changes) (maxL := 3) (ret := (some .boolean)) (by decide) rfl ?_
  intro p e s m args below meth c s₁ B hml hv
  obtain ⟨rfl, hH, hK⟩ := hv
  have hx := B.exec
  have hb := B.bytes
  have hr := B.returns
  have hts := atoms_spec (ws := wsX3_changes) B.pre
  have hown : s.vm.findClass RX3 = some m.cls := findClass_of_methodNamed B.named
  have hlocks := B.notSynchronized
  rw [hH]
  have hl := lv_entry ([.ref (A 0), .ref (A (16 + 4 * k)), .int (nI t)]) (n := 3) (Nat.le_of_ble_eq_true rfl)
  rw [lg_entry_eq]
  generalize (lg_sl ([.ref (A 0), .ref (A (16 + 4 * k)), .int (nI t)]) ++ List.replicate (3 - (lg_sl ([.ref (A 0), .ref (A (16 + 4 * k)), .int (nI t)])).length) Slot.unset).toArray = ls at hl ⊢
  have hl : lv_has ls 3 [(0, .ref (A 0)), (1, .ref (A (16 + 4 * k))), (2, .int (nI t))] := hl
  have hVB := hC.wf
  have hV4 : sV σ ≤ 400 := hVB.2.1
  have hB4 : sB σ ≤ 40 := hVB.2.2.2.1
  obtain ⟨hbf, hbw, -, -, -⟩ := hC.bef hk
  refine lv_aload_n hx hb dX3_changes_0 rfl (lv_at hl 1 rfl) ?_
  refine k_getN (ci := 2) (C := RX2) (T := TX2) (N := 5) (v := .ref (A (17 + 4 * k))) hx hb hts (by decide +kernel) hown hK (hC.ver hk) rfl 3 (by decide) rfl (List.mem_of_getElem? (i := 3) rfl) rfl dX3_changes_1 ?_
  refine lv_iload_n hx hb dX3_changes_4 rfl (lv_at hl 2 rfl) ?_
  refine k_callX (va_runVN (As := [.int (nI t)]) (rest := []) ⟨hx, hb, hml, hown, hts⟩ (c_X1_has l D g H _ _ (sW σ k) (hC.ts hk) (hC.tw hk) t ht) ⟨va_cnB 1 hts gX3_changes_X1_has_n61 rfl rfl rfl (hK.2.1 (RX3, 61, yX1_has) (List.mem_of_getElem? (i := 5) rfl)) (hts (.initialized RX1) (by decide +kernel)) (by decide +kernel) ⟨Nat.le_of_ble_eq_true rfl, Nat.le_of_ble_eq_true rfl⟩, hts (.instanceMethod yX1_has) (by decide +kernel), hts (.selects RX1 yX1_has yX1_has) (by decide +kernel)⟩ ⟨kPc_blind, k_recv hK (hC.ts hk) rfl, fun U hU hW => kPc_at hK hU hW⟩ rfl rfl hl.1 rfl (lv_room (Nat.le_of_ble_eq_true rfl)) dX3_changes_5 ⟨Nat.le_of_ble_eq_true rfl, Nat.le_of_ble_eq_true rfl⟩) ?_
  refine lv_aload_n hx hb dX3_changes_8 rfl (lv_at hl 0 rfl) ?_
  refine lv_aload_n hx hb dX3_changes_9 rfl (lv_at hl 1 rfl) ?_
  refine k_callX (va_runV (As := [.ref (A (16 + 4 * k))]) (rest := [.int (b2i (bt (sW σ k) t))]) ⟨hx, hb, hml, hown, hts⟩ (c_X3_setBefore l D g b0 H A σ dw hC k hk) (cwV 1 hts gX3_changes_X3_setBefore rfl rfl rfl (by decide +kernel) ⟨Nat.le_of_ble_eq_true rfl, Nat.le_of_ble_eq_true rfl⟩) ⟨kPc_blind, k_recv hK hC.o rfl, fun U hU hW => kPc_at hK hU hW⟩ rfl rfl hl.1 rfl (lv_room (Nat.le_of_ble_eq_true rfl)) dX3_changes_10 ⟨Nat.le_of_ble_eq_true rfl, Nat.le_of_ble_eq_true rfl⟩) ?_
  refine lv_iload_n hx hb dX3_changes_13 rfl (lv_at hl 2 rfl) ?_
  refine k_callX (va_runVN (As := [.int (nI t)]) (rest := [.int (b2i (bt (sW σ k) t))]) ⟨hx, hb, hml, hown, hts⟩ (c_X1_has l D g H _ _ (befW σ k) hbf hbw t ht) ⟨va_cnB 1 hts gX3_changes_X1_has_n61 rfl rfl rfl (hK.2.1 (RX3, 61, yX1_has) (List.mem_of_getElem? (i := 5) rfl)) (hts (.initialized RX1) (by decide +kernel)) (by decide +kernel) ⟨Nat.le_of_ble_eq_true rfl, Nat.le_of_ble_eq_true rfl⟩, hts (.instanceMethod yX1_has) (by decide +kernel), hts (.selects RX1 yX1_has yX1_has) (by decide +kernel)⟩ ⟨kPc_blind, k_recv hK hbf rfl, fun U hU hW => kPc_at hK hU hW⟩ rfl rfl hl.1 rfl (lv_room (Nat.le_of_ble_eq_true rfl)) dX3_changes_14 ⟨Nat.le_of_ble_eq_true rfl, Nat.le_of_ble_eq_true rfl⟩) ?_
  refine z_icmp_eq (tgt := 24) hx hb dX3_changes_17 (by decide) (fun c_542 => ?_) (fun c_542 => ?_)
  · skip
    refine lv_iconst (v := b2i false) hx hb dX3_changes_24 (by decide +kernel) ?_
    exact r_zX hx hb hr (by rw [nbeq_f c_542]) dX3_changes_25 hlocks
  · skip
    refine lv_iconst (v := b2i true) hx hb dX3_changes_20 (by decide +kernel) ?_
    refine lv_goto (tgt := 25) hx hb dX3_changes_21 (by decide) ?_
    exact r_zX hx hb hr (by rw [nbeq_t c_542]) dX3_changes_25 hlocks
set_option maxHeartbeats 4000000 in
set_option maxRecDepth 100000 in
theorem c_X3_isFull (l : Launch) (D : va_G) (g : Nat → ClassId) (b0 : Nat) (H : Heap) (A : Nat → Nat) (σ : SG) (dw : Nat → Int64) (hC : CR D g b0 A σ dw H) : Met l yX3_isFull wsX3_isFull ({ frames := 0, cells := 0, slots := 0, locals := 0 } : Room) (kPc D g [.ref (A 0)] H) (kX (.int (b2i (decide (400 ≤ sV σ)))) H) 0 0 kN := by
  refine Met.ofW (cc := cX3_isFull) (maxL := 1) (ret := (some .boolean)) (by decide) rfl ?_
  intro p e s m args below meth c s₁ B hml hv
  obtain ⟨rfl, hH, hK⟩ := hv
  have hx := B.exec
  have hb := B.bytes
  have hr := B.returns
  have hts := atoms_spec (ws := wsX3_isFull) B.pre
  have hown : s.vm.findClass RX3 = some m.cls := findClass_of_methodNamed B.named
  have hlocks := B.notSynchronized
  rw [hH]
  have hl := lv_entry ([.ref (A 0)]) (n := 1) (Nat.le_of_ble_eq_true rfl)
  rw [lg_entry_eq]
  generalize (lg_sl ([.ref (A 0)]) ++ List.replicate (1 - (lg_sl ([.ref (A 0)])).length) Slot.unset).toArray = ls at hl ⊢
  have hl : lv_has ls 1 [(0, .ref (A 0))] := hl
  have hVB := hC.wf
  have hV4 : sV σ ≤ 400 := hVB.2.1
  have hB4 : sB σ ≤ 40 := hVB.2.2.2.1
  refine lv_aload_n hx hb dX3_isFull_0 rfl (lv_at hl 0 rfl) ?_
  refine k_get (ci := 3) (C := RX3) (T := TX3) (N := 7) (v := .int (nI (sV σ))) hx hb hts (by decide +kernel) hown hK hC.o rfl 2 (by decide) rfl (hts (.fieldLink RX3 146 RX3 "versionCount" "I") (by decide +kernel)) rfl dX3_isFull_1 ?_
  refine lv_sipush (v := nI 400) hx hb dX3_isFull_4 (by decide +kernel) ?_
  refine n_icmp_lt (tgt := 14) hx hb dX3_isFull_7 (by decide) (by omega) (by omega) (fun c_543 => ?_) (fun c_543 => ?_)
  · skip
    refine lv_iconst (v := b2i false) hx hb dX3_isFull_14 (by decide +kernel) ?_
    exact r_zX hx hb hr (by rw [show decide (400 ≤ sV σ) = false from decide_eq_false (by omega)]) dX3_isFull_15 hlocks
  · skip
    refine lv_iconst (v := b2i true) hx hb dX3_isFull_10 (by decide +kernel) ?_
    refine lv_goto (tgt := 15) hx hb dX3_isFull_11 (by decide) ?_
    exact r_zX hx hb hr (by rw [show decide (400 ≤ sV σ) = true from decide_eq_true (by omega)]) dX3_isFull_15 hlocks
set_option maxHeartbeats 4000000 in
set_option maxRecDepth 100000 in
/-- greatestCommon -/
theorem c_X3_greatestCommon_1 (l : Launch) (D : va_G) (g : Nat → ClassId) (b0 : Nat) (H : Heap) (A : Nat → Nat) (σ : SG) (dw : Nat → Int64) (hC : CR D g b0 A σ dw H) (u v : Nat) (hu : u < sV σ) (hv : v < sV σ) (c0 : Nat) (hc0 : GC1 σ u v c0) : Met l yX3_greatestCommon wsX3_greatestCommon ({ frames := 1, cells := 0, slots := 0, locals := 30 } : Room) (kPc D g [.ref (A 0), .ref (A (16 + 4 * u)), .ref (A (16 + 4 * v))] H) (kX (.ref (A (16 + 4 * c0))) H) 0 0 kN := by
  refine Met.ofW (cc := cX3_greatestCommon) (maxL := 4) (ret := (some (.object "VersionMerge$Version"))) (by decide) rfl ?_
  intro p e s m args below meth c s₁ B hml hv
  obtain ⟨rfl, hH, hK⟩ := hv
  have hx := B.exec
  have hb := B.bytes
  have hr := B.returns
  have hts := atoms_spec (ws := wsX3_greatestCommon) B.pre
  have hown : s.vm.findClass RX3 = some m.cls := findClass_of_methodNamed B.named
  have hlocks := B.notSynchronized
  rw [hH]
  have hl := lv_entry ([.ref (A 0), .ref (A (16 + 4 * u)), .ref (A (16 + 4 * v))]) (n := 4) (Nat.le_of_ble_eq_true rfl)
  rw [lg_entry_eq]
  generalize (lg_sl ([.ref (A 0), .ref (A (16 + 4 * u)), .ref (A (16 + 4 * v))]) ++ List.replicate (4 - (lg_sl ([.ref (A 0), .ref (A (16 + 4 * u)), .ref (A (16 + 4 * v))])).length) Slot.unset).toArray = ls at hl ⊢
  have hl : lv_has ls 4 [(0, .ref (A 0)), (1, .ref (A (16 + 4 * u))), (2, .ref (A (16 + 4 * v)))] := hl
  have hVB := hC.wf
  have hV4 : sV σ ≤ 400 := hVB.2.1
  have hB4 : sB σ ≤ 40 := hVB.2.2.2.1
  have hcu := hVB.gc1 hu hc0
  refine lv_aload_n hx hb dX3_greatestCommon_0 rfl (lv_at hl 1 rfl) ?_
  refine k_getN (ci := 2) (C := RX2) (T := TX2) (N := 5) (v := .int (nI u)) hx hb hts (by decide +kernel) hown hK (hC.ver hu) rfl 0 (by decide) rfl (List.mem_of_getElem? (i := 0) rfl) rfl dX3_greatestCommon_1 ?_
  refine lv_aload_n hx hb dX3_greatestCommon_4 rfl (lv_at hl 2 rfl) ?_
  refine k_getN (ci := 2) (C := RX2) (T := TX2) (N := 5) (v := .int (nI v)) hx hb hts (by decide +kernel) hown hK (hC.ver hv) rfl 0 (by decide) rfl (List.mem_of_getElem? (i := 0) rfl) rfl dX3_greatestCommon_5 ?_
  refine va_mmin (x := nI u) (y := nI v) hx hb (hml.trans hl.1.symm) hown (hts (.methodLink RX3 158 Lib.Math.min.name) (by decide +kernel)) (hts (.static Lib.Math.min.name) (by decide +kernel)) (hts (.initialized "java/lang/Math") (by decide +kernel)) (hts (.code Lib.Math.min.name Lib.Math.min.code 2 (some .int)) (by decide +kernel)) (Nat.le_of_ble_eq_true rfl) (Nat.le_of_ble_eq_true rfl) (Nat.le_of_ble_eq_true rfl) (Nat.le_of_ble_eq_true rfl) dX3_greatestCommon_8 ?_
  rw [nI_min u v (by omega) (by omega)]
  refine lv_istore_n (lv' := [(3, .int (nI (min u v))), (0, .ref (A 0)), (1, .ref (A (16 + 4 * u))), (2, .ref (A (16 + 4 * v)))]) hx hb dX3_greatestCommon_11 rfl hl (by decide) rfl (fun ls hl => ?_)
  have loop : ∀ (n i : Nat) (y : Int32), i < n → i ≤ min u v + 1 → y = nI i - 1 → (∀ z, i ≤ z → z < 400 → ¬ (sA σ u z = true ∧ sA σ v z = true)) → ∀ ls, lv_has ls 4 [(3, .int y), (0, .ref (A 0)), (1, .ref (A (16 + 4 * u))), (2, .ref (A (16 + 4 * v)))] → W p l e (headSpec wsX3_greatestCommon ({ frames := 1, cells := 0, slots := 0, locals := 30 } : Room)).room s m ([.ref (A 0), .ref (A (16 + 4 * u)), .ref (A (16 + 4 * v))] : List Value).toArray below meth c H [] 0 0 (MQ below (kX (.ref (A (16 + 4 * c0))) H) ([.ref (A 0), .ref (A (16 + 4 * u)), .ref (A (16 + 4 * v))] : List Value).toArray s 0 0 kN) (F0 m 12 ls []) := by
    intro n
    induction n with
    | zero => intro i y h0 h1; omega
    | succ n ih =>
      intro i y hn hi hy hv2 ls hl
      have hmu := Nat.min_le_left u v
      have hmv := Nat.min_le_right u v
      cases i with
      | zero =>
        exact absurd ⟨hc0.2.1, hc0.2.2.1⟩ (hv2 c0 (Nat.zero_le _) hc0.1)
      | succ i =>
        obtain rfl : y = nI i := hy.trans (nI_pred i)
        refine lv_iload_n hx hb dX3_greatestCommon_12 rfl (lv_at hl 0 rfl) ?_
        refine n_if_lt (tgt := 44) hx hb dX3_greatestCommon_13 (by decide) (by omega) ?_
        refine lv_aload_n hx hb dX3_greatestCommon_16 rfl (lv_at hl 2 rfl) ?_
        refine lv_iload_n hx hb dX3_greatestCommon_17 rfl (lv_at hl 0 rfl) ?_
        refine k_callX (va_runVN (As := [.int (nI i)]) (rest := []) ⟨hx, hb, hml, hown, hts⟩ (c_X2_hasAncestor l D g H _ _ _ _ _ _ (sA σ u) (hC.ver hu) (hC.an hu) i (by omega)) ⟨va_cnB 1 hts gX3_greatestCommon_X2_hasAncestor_n93 rfl rfl rfl (hK.2.1 (RX3, 93, yX2_hasAncestor) (List.mem_of_getElem? (i := 11) rfl)) (hts (.initialized RX2) (by decide +kernel)) (by decide +kernel) ⟨Nat.le_of_ble_eq_true rfl, Nat.le_of_ble_eq_true rfl⟩, hts (.instanceMethod yX2_hasAncestor) (by decide +kernel), hts (.selects RX2 yX2_hasAncestor yX2_hasAncestor) (by decide +kernel)⟩ ⟨kPc_blind, k_recv hK (hC.ver hu) rfl, fun U hU hW => kPc_at hK hU hW⟩ rfl rfl hl.1 rfl (lv_room (Nat.le_of_ble_eq_true rfl)) dX3_greatestCommon_18 ⟨Nat.le_of_ble_eq_true rfl, Nat.le_of_ble_eq_true rfl⟩) ?_
        refine z_if_eq (tgt := 38) hx hb dX3_greatestCommon_21 (by decide) (fun c_545 => ?_) (fun c_545 => ?_)
        · skip
          refine lv_iinc (v := (nI i) + -1) (lv' := [(3, .int ((nI i) + -1)), (0, .ref (A 0)), (1, .ref (A (16 + 4 * u))), (2, .ref (A (16 + 4 * v)))]) hx hb dX3_greatestCommon_38 hl (k := 0) rfl rfl (by decide) rfl (fun ls hl => ?_)
          refine lv_goto (tgt := 12) hx hb dX3_greatestCommon_41 (by decide) ?_
          refine ih i _ (by omega) (by omega) (Int32.sub_eq_add_neg _ _).symm ?_ ls (lv_sub hl [0, 1, 2, 3] rfl)
          intro z hz hz2
          rcases Nat.lt_or_ge i z with q | q
          · exact hv2 z q hz2
          · rw [show z = i by omega]; intro q2; rw [c_545] at q2; cases q2.1
        · skip
          refine lv_aload_n hx hb dX3_greatestCommon_24 rfl (lv_at hl 3 rfl) ?_
          refine lv_iload_n hx hb dX3_greatestCommon_25 rfl (lv_at hl 0 rfl) ?_
          refine k_callX (va_runVN (As := [.int (nI i)]) (rest := []) ⟨hx, hb, hml, hown, hts⟩ (c_X2_hasAncestor l D g H _ _ _ _ _ _ (sA σ v) (hC.ver hv) (hC.an hv) i (by omega)) ⟨va_cnB 1 hts gX3_greatestCommon_X2_hasAncestor_n93 rfl rfl rfl (hK.2.1 (RX3, 93, yX2_hasAncestor) (List.mem_of_getElem? (i := 11) rfl)) (hts (.initialized RX2) (by decide +kernel)) (by decide +kernel) ⟨Nat.le_of_ble_eq_true rfl, Nat.le_of_ble_eq_true rfl⟩, hts (.instanceMethod yX2_hasAncestor) (by decide +kernel), hts (.selects RX2 yX2_hasAncestor yX2_hasAncestor) (by decide +kernel)⟩ ⟨kPc_blind, k_recv hK (hC.ver hv) rfl, fun U hU hW => kPc_at hK hU hW⟩ rfl rfl hl.1 rfl (lv_room (Nat.le_of_ble_eq_true rfl)) dX3_greatestCommon_26 ⟨Nat.le_of_ble_eq_true rfl, Nat.le_of_ble_eq_true rfl⟩) ?_
          refine z_if_eq (tgt := 38) hx hb dX3_greatestCommon_29 (by decide) (fun c_546 => ?_) (fun c_546 => ?_)
          · skip
            refine lv_iinc (v := (nI i) + -1) (lv' := [(3, .int ((nI i) + -1)), (0, .ref (A 0)), (1, .ref (A (16 + 4 * u))), (2, .ref (A (16 + 4 * v)))]) hx hb dX3_greatestCommon_38 hl (k := 0) rfl rfl (by decide) rfl (fun ls hl => ?_)
            refine lv_goto (tgt := 12) hx hb dX3_greatestCommon_41 (by decide) ?_
            refine ih i _ (by omega) (by omega) (Int32.sub_eq_add_neg _ _).symm ?_ ls (lv_sub hl [0, 1, 2, 3] rfl)
            intro z hz hz2
            rcases Nat.lt_or_ge i z with q | q
            · exact hv2 z q hz2
            · rw [show z = i by omega]; intro q2; rw [c_546] at q2; cases q2.2
          · skip
            refine lv_aload_n hx hb dX3_greatestCommon_32 rfl (lv_at hl 1 rfl) ?_
            refine lv_iload_n hx hb dX3_greatestCommon_33 rfl (lv_at hl 0 rfl) ?_
            refine k_callX (va_runV (As := [.int (nI i)]) (rest := []) ⟨hx, hb, hml, hown, hts⟩ (c_X3_versionAt_y l D g b0 H A σ dw hC i (by omega)) (cwV 1 hts gX3_greatestCommon_X3_versionAt rfl rfl rfl (by decide +kernel) ⟨Nat.le_of_ble_eq_true rfl, Nat.le_of_ble_eq_true rfl⟩) ⟨kPc_blind, k_recv hK hC.o rfl, fun U hU hW => kPc_at hK hU hW⟩ rfl rfl hl.1 rfl (lv_room (Nat.le_of_ble_eq_true rfl)) dX3_greatestCommon_34 ⟨Nat.le_of_ble_eq_true rfl, Nat.le_of_ble_eq_true rfl⟩) ?_
            obtain rfl : i = c0 := by
              rcases Nat.lt_trichotomy i c0 with q | q | q
              · exact absurd ⟨hc0.2.1, hc0.2.2.1⟩ (hv2 c0 (by omega) hc0.1)
              · exact q
              · exact absurd ⟨c_545, c_546⟩ (hc0.2.2.2 i q (by omega))
            exact r_aX hx hb hr (Or.inr ⟨_, rfl⟩) dX3_greatestCommon_37 hlocks
  refine loop (min u v + 2) (min u v + 1) _ (by omega) (Nat.le_refl _) (nI_pred _).symm ?_ ls (lv_sub hl [0, 1, 2, 3] rfl)
  intro z hz hz2 q
  have q1 := hVB.anc (u + 1) u (by omega) hu z hz2 q.1
  have q2 := hVB.anc (v + 1) v (by omega) hv z hz2 q.2
  omega
set_option maxHeartbeats 4000000 in
set_option maxRecDepth 100000 in
/-- greatestCommon -/
theorem c_X3_greatestCommon_0 (l : Launch) (D : va_G) (g : Nat → ClassId) (b0 : Nat) (H : Heap) (A : Nat → Nat) (σ : SG) (dw : Nat → Int64) (hC : CR D g b0 A σ dw H) (u v : Nat) (hu : u < sV σ) (hv : v < sV σ) (hc0 : GC0 σ u v) : Met l yX3_greatestCommon wsX3_greatestCommon ({ frames := 1, cells := 0, slots := 0, locals := 30 } : Room) (kPc D g [.ref (A 0), .ref (A (16 + 4 * u)), .ref (A (16 + 4 * v))] H) (kX (.null) H) 0 0 kN := by
  refine Met.ofW (cc := cX3_greatestCommon) (maxL := 4) (ret := (some (.object "VersionMerge$Version"))) (by decide) rfl ?_
  intro p e s m args below meth c s₁ B hml hv
  obtain ⟨rfl, hH, hK⟩ := hv
  have hx := B.exec
  have hb := B.bytes
  have hr := B.returns
  have hts := atoms_spec (ws := wsX3_greatestCommon) B.pre
  have hown : s.vm.findClass RX3 = some m.cls := findClass_of_methodNamed B.named
  have hlocks := B.notSynchronized
  rw [hH]
  have hl := lv_entry ([.ref (A 0), .ref (A (16 + 4 * u)), .ref (A (16 + 4 * v))]) (n := 4) (Nat.le_of_ble_eq_true rfl)
  rw [lg_entry_eq]
  generalize (lg_sl ([.ref (A 0), .ref (A (16 + 4 * u)), .ref (A (16 + 4 * v))]) ++ List.replicate (4 - (lg_sl ([.ref (A 0), .ref (A (16 + 4 * u)), .ref (A (16 + 4 * v))])).length) Slot.unset).toArray = ls at hl ⊢
  have hl : lv_has ls 4 [(0, .ref (A 0)), (1, .ref (A (16 + 4 * u))), (2, .ref (A (16 + 4 * v)))] := hl
  have hVB := hC.wf
  have hV4 : sV σ ≤ 400 := hVB.2.1
  have hB4 : sB σ ≤ 40 := hVB.2.2.2.1
  refine lv_aload_n hx hb dX3_greatestCommon_0 rfl (lv_at hl 1 rfl) ?_
  refine k_getN (ci := 2) (C := RX2) (T := TX2) (N := 5) (v := .int (nI u)) hx hb hts (by decide +kernel) hown hK (hC.ver hu) rfl 0 (by decide) rfl (List.mem_of_getElem? (i := 0) rfl) rfl dX3_greatestCommon_1 ?_
  refine lv_aload_n hx hb dX3_greatestCommon_4 rfl (lv_at hl 2 rfl) ?_
  refine k_getN (ci := 2) (C := RX2) (T := TX2) (N := 5) (v := .int (nI v)) hx hb hts (by decide +kernel) hown hK (hC.ver hv) rfl 0 (by decide) rfl (List.mem_of_getElem? (i := 0) rfl) rfl dX3_greatestCommon_5 ?_
  refine va_mmin (x := nI u) (y := nI v) hx hb (hml.trans hl.1.symm) hown (hts (.methodLink RX3 158 Lib.Math.min.name) (by decide +kernel)) (hts (.static Lib.Math.min.name) (by decide +kernel)) (hts (.initialized "java/lang/Math") (by decide +kernel)) (hts (.code Lib.Math.min.name Lib.Math.min.code 2 (some .int)) (by decide +kernel)) (Nat.le_of_ble_eq_true rfl) (Nat.le_of_ble_eq_true rfl) (Nat.le_of_ble_eq_true rfl) (Nat.le_of_ble_eq_true rfl) dX3_greatestCommon_8 ?_
  rw [nI_min u v (by omega) (by omega)]
  refine lv_istore_n (lv' := [(3, .int (nI (min u v))), (0, .ref (A 0)), (1, .ref (A (16 + 4 * u))), (2, .ref (A (16 + 4 * v)))]) hx hb dX3_greatestCommon_11 rfl hl (by decide) rfl (fun ls hl => ?_)
  have loop : ∀ (n i : Nat) (y : Int32), i < n → i ≤ min u v + 1 → y = nI i - 1 → (∀ z, i ≤ z → z < 400 → ¬ (sA σ u z = true ∧ sA σ v z = true)) → ∀ ls, lv_has ls 4 [(3, .int y), (0, .ref (A 0)), (1, .ref (A (16 + 4 * u))), (2, .ref (A (16 + 4 * v)))] → W p l e (headSpec wsX3_greatestCommon ({ frames := 1, cells := 0, slots := 0, locals := 30 } : Room)).room s m ([.ref (A 0), .ref (A (16 + 4 * u)), .ref (A (16 + 4 * v))] : List Value).toArray below meth c H [] 0 0 (MQ below (kX (.null) H) ([.ref (A 0), .ref (A (16 + 4 * u)), .ref (A (16 + 4 * v))] : List Value).toArray s 0 0 kN) (F0 m 12 ls []) := by
    intro n
    induction n with
    | zero => intro i y h0 h1; omega
    | succ n ih =>
      intro i y hn hi hy hv2 ls hl
      have hmu := Nat.min_le_left u v
      have hmv := Nat.min_le_right u v
      cases i with
      | zero =>
        refine lv_iload_n hx hb dX3_greatestCommon_12 rfl (lv_at hl 0 rfl) ?_
        refine lv_if_lt (tgt := 44) hx hb dX3_greatestCommon_13 (by decide) (fun _ => ?_) (fun q => absurd (by rw [hy]; decide +kernel) q)
        refine lv_null hx hb dX3_greatestCommon_44 ?_
        exact r_aX hx hb hr (Or.inl rfl) dX3_greatestCommon_45 hlocks
      | succ i =>
        obtain rfl : y = nI i := hy.trans (nI_pred i)
        refine lv_iload_n hx hb dX3_greatestCommon_12 rfl (lv_at hl 0 rfl) ?_
        refine n_if_lt (tgt := 44) hx hb dX3_greatestCommon_13 (by decide) (by omega) ?_
        refine lv_aload_n hx hb dX3_greatestCommon_16 rfl (lv_at hl 2 rfl) ?_
        refine lv_iload_n hx hb dX3_greatestCommon_17 rfl (lv_at hl 0 rfl) ?_
        refine k_callX (va_runVN (As := [.int (nI i)]) (rest := []) ⟨hx, hb, hml, hown, hts⟩ (c_X2_hasAncestor l D g H _ _ _ _ _ _ (sA σ u) (hC.ver hu) (hC.an hu) i (by omega)) ⟨va_cnB 1 hts gX3_greatestCommon_X2_hasAncestor_n93 rfl rfl rfl (hK.2.1 (RX3, 93, yX2_hasAncestor) (List.mem_of_getElem? (i := 11) rfl)) (hts (.initialized RX2) (by decide +kernel)) (by decide +kernel) ⟨Nat.le_of_ble_eq_true rfl, Nat.le_of_ble_eq_true rfl⟩, hts (.instanceMethod yX2_hasAncestor) (by decide +kernel), hts (.selects RX2 yX2_hasAncestor yX2_hasAncestor) (by decide +kernel)⟩ ⟨kPc_blind, k_recv hK (hC.ver hu) rfl, fun U hU hW => kPc_at hK hU hW⟩ rfl rfl hl.1 rfl (lv_room (Nat.le_of_ble_eq_true rfl)) dX3_greatestCommon_18 ⟨Nat.le_of_ble_eq_true rfl, Nat.le_of_ble_eq_true rfl⟩) ?_
        refine z_if_eq (tgt := 38) hx hb dX3_greatestCommon_21 (by decide) (fun c_548 => ?_) (fun c_548 => ?_)
        · skip
          refine lv_iinc (v := (nI i) + -1) (lv' := [(3, .int ((nI i) + -1)), (0, .ref (A 0)), (1, .ref (A (16 + 4 * u))), (2, .ref (A (16 + 4 * v)))]) hx hb dX3_greatestCommon_38 hl (k := 0) rfl rfl (by decide) rfl (fun ls hl => ?_)
          refine lv_goto (tgt := 12) hx hb dX3_greatestCommon_41 (by decide) ?_
          refine ih i _ (by omega) (by omega) (Int32.sub_eq_add_neg _ _).symm ?_ ls (lv_sub hl [0, 1, 2, 3] rfl)
          intro z hz hz2
          rcases Nat.lt_or_ge i z with q | q
          · exact hv2 z q hz2
          · rw [show z = i by omega]; intro q2; rw [c_548] at q2; cases q2.1
        · skip
          refine lv_aload_n hx hb dX3_greatestCommon_24 rfl (lv_at hl 3 rfl) ?_
          refine lv_iload_n hx hb dX3_greatestCommon_25 rfl (lv_at hl 0 rfl) ?_
          refine k_callX (va_runVN (As := [.int (nI i)]) (rest := []) ⟨hx, hb, hml, hown, hts⟩ (c_X2_hasAncestor l D g H _ _ _ _ _ _ (sA σ v) (hC.ver hv) (hC.an hv) i (by omega)) ⟨va_cnB 1 hts gX3_greatestCommon_X2_hasAncestor_n93 rfl rfl rfl (hK.2.1 (RX3, 93, yX2_hasAncestor) (List.mem_of_getElem? (i := 11) rfl)) (hts (.initialized RX2) (by decide +kernel)) (by decide +kernel) ⟨Nat.le_of_ble_eq_true rfl, Nat.le_of_ble_eq_true rfl⟩, hts (.instanceMethod yX2_hasAncestor) (by decide +kernel), hts (.selects RX2 yX2_hasAncestor yX2_hasAncestor) (by decide +kernel)⟩ ⟨kPc_blind, k_recv hK (hC.ver hv) rfl, fun U hU hW => kPc_at hK hU hW⟩ rfl rfl hl.1 rfl (lv_room (Nat.le_of_ble_eq_true rfl)) dX3_greatestCommon_26 ⟨Nat.le_of_ble_eq_true rfl, Nat.le_of_ble_eq_true rfl⟩) ?_
          refine z_if_eq (tgt := 38) hx hb dX3_greatestCommon_29 (by decide) (fun c_549 => ?_) (fun c_549 => ?_)
          · skip
            refine lv_iinc (v := (nI i) + -1) (lv' := [(3, .int ((nI i) + -1)), (0, .ref (A 0)), (1, .ref (A (16 + 4 * u))), (2, .ref (A (16 + 4 * v)))]) hx hb dX3_greatestCommon_38 hl (k := 0) rfl rfl (by decide) rfl (fun ls hl => ?_)
            refine lv_goto (tgt := 12) hx hb dX3_greatestCommon_41 (by decide) ?_
            refine ih i _ (by omega) (by omega) (Int32.sub_eq_add_neg _ _).symm ?_ ls (lv_sub hl [0, 1, 2, 3] rfl)
            intro z hz hz2
            rcases Nat.lt_or_ge i z with q | q
            · exact hv2 z q hz2
            · rw [show z = i by omega]; intro q2; rw [c_549] at q2; cases q2.2
          · skip
            refine lv_aload_n hx hb dX3_greatestCommon_32 rfl (lv_at hl 1 rfl) ?_
            refine lv_iload_n hx hb dX3_greatestCommon_33 rfl (lv_at hl 0 rfl) ?_
            refine k_callX (va_runV (As := [.int (nI i)]) (rest := []) ⟨hx, hb, hml, hown, hts⟩ (c_X3_versionAt_y l D g b0 H A σ dw hC i (by omega)) (cwV 1 hts gX3_greatestCommon_X3_versionAt rfl rfl rfl (by decide +kernel) ⟨Nat.le_of_ble_eq_true rfl, Nat.le_of_ble_eq_true rfl⟩) ⟨kPc_blind, k_recv hK hC.o rfl, fun U hU hW => kPc_at hK hU hW⟩ rfl rfl hl.1 rfl (lv_room (Nat.le_of_ble_eq_true rfl)) dX3_greatestCommon_34 ⟨Nat.le_of_ble_eq_true rfl, Nat.le_of_ble_eq_true rfl⟩) ?_
            exact absurd ⟨c_548, c_549⟩ (hc0 i (by omega))
  refine loop (min u v + 2) (min u v + 1) _ (by omega) (Nat.le_refl _) (nI_pred _).symm ?_ ls (lv_sub hl [0, 1, 2, 3] rfl)
  intro z hz hz2 q
  have q1 := hVB.anc (u + 1) u (by omega) hu z hz2 q.1
  have q2 := hVB.anc (v + 1) v (by omega) hv z hz2 q.2
  omega

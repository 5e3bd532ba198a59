/-! 28: the law (laid by wip/gen/law28.py) -/
/-! THE CLAIM OUT OF ONE WALK OF THE LAW'S BODY. Your part is whole_start (and what it stands on); all else here is the same for every law, but numbers. -/
def R_law : String := "VersionMergeLaw"
def lw_P (b : Addr) (xs : List Int32) (args : Array Value) (s : State) : Prop := args = #[.ref b] ∧ s.IntsAt b xs ∧ xs.length ≤ 2048 ∧ (Jvm.Cond.and given_1 narrow_1).before args s = true
def lw_Q (_ : Array Value) (s : State) (o : Outcome) (t : State) : Prop := o = .returned (some (.int 1)) ∧ Framed s o t [] 600000 7302250
def lw_Z (below : List Frame) (a : Array Value) (s : State) : State → Prop := fun t => ∃ o, t.status = .running ∧ Ended t below o ∧ lw_Q a s o t
/-- the law's own end, with 1 on the stack, nothing written that was there before, its room as the claim has it -/
theorem lw_ret {p : Program} {l : Launch} {e : Env} {s : State} {m : MethodId} {below : List Frame} {meth : Method} {c : Code} {b : Nat} (hx : p.tables.exec = Jvm.exec) (hb : c.code = code) (hr : meth.sig.returnType = ret) (hlocks : meth.locks = false) {pc : Nat} {H : Heap} {ls : Array Slot} (hdg : decode code pc = .ok (.ireturn, 1)) : W p l e room_1 s m #[Value.ref b] below meth c H [] 600000 7302250 (lw_Z below #[Value.ref b] s) (F0 m pc ls [.int 1]) := by
  intro T hT X
  obtain ⟨fs, hret, hrun, hended, hW, hframe⟩ := X.leave (v := some (.int 1)) (hlocks := hlocks) (fun h => by rw [hr] at h; cases h)
  have hmeth' : T.vm.method? m = some meth := X.method'
  refine ⟨T.setFrames fs, ?_, .returned (some (.int 1)), hrun, hended, rfl, ⟨_, rfl⟩, hW, hframe⟩
  jvm_step X.here [X.here.top, hx, hb, hdg, hmeth', hr, ret, narrow_b1]
  (try refine ⟨rfl, ?_⟩); (try refine ⟨rfl, ?_⟩)
  first | (intro acts; rw [hret _ acts rfl rfl rfl]) | rw [hret _ _ rfl rfl rfl]
  exact Steps.refl _
/-- what holds at the law's entry: the machine, the code, the tables' words (any of lw_tbl by 'hts w (by decide +kernel)'), the script of L ints xs at the cell b, what the Statement gives of the start (any of its parts by flat_of_before) -/
def lw_At (p : Program) (s : State) (m : MethodId) (meth : Method) (c : Code) (b L : Nat) (xs : Nat → Int32) : Prop :=
  p.tables.exec = Jvm.exec ∧ c.code = code ∧ meth.sig.returnType = ret ∧ c.maxLocals = 4 ∧ s.vm.findClass R_law = some m.cls ∧ (∀ w ∈ lw_tbl, w.before #[Value.ref b] s = true) ∧ va_X b L xs s s.heap ∧ b < s.heap.size ∧ meth.locks = false ∧ (Jvm.Cond.and given_1 narrow_1).before #[Value.ref b] s = true
theorem nestM_in : ∀ q ∈ nestM, Cond.methodLinkNest q.1 q.2.1 q.2.2 "VersionMerge" ∈ lw_tbl := by decide +kernel
theorem nestF_in : ∀ q ∈ nestF, Cond.fieldLinkNest q.1 q.2.1 q.2.2.1 q.2.2.2.1 q.2.2.2.2 "VersionMerge" ∈ lw_tbl := by decide +kernel
theorem law_KK {s : State} {b : Nat} (hts : ∀ w ∈ lw_tbl, w.before #[Value.ref b] s = true) : ∃ (D : va_G) (g : Nat → ClassId), KK D g s := by
  obtain ⟨c0, i0, h0⟩ := u_known (C := RX0) (T := TX0) (N := 1) (n := 1) hts inX0 (hts (.instantiable RX0 1) (by decide +kernel))
  obtain ⟨c1, i1, h1⟩ := u_known (C := RX1) (T := TX1) (N := 1) (n := 1) hts inX1 (hts (.instantiable RX1 1) (by decide +kernel))
  obtain ⟨c2, i2, h2⟩ := u_known (C := RX2) (T := TX2) (N := 5) (n := 5) hts inX2 (hts (.instantiable RX2 5) (by decide +kernel))
  obtain ⟨c3, i3, h3⟩ := u_known (C := RX3) (T := TX3) (N := 7) (n := 7) hts inX3 (hts (.instantiable RX3 7) (by decide +kernel))
  obtain ⟨c4, i4, h4⟩ := u_known (C := RX4) (T := TX4) (N := 13) (n := 13) hts inX4 (hts (.instantiable RX4 13) (by decide +kernel))
  obtain ⟨a0, k0, p0, f0, e0, t0⟩ := Cond.arrayClass_spec (hts (.arrayClass .byte) (by decide +kernel))
  obtain ⟨a1, k1, p1, f1, e1, t1⟩ := Cond.arrayClass_spec (hts (.arrayClass .int) (by decide +kernel))
  obtain ⟨a2, k2, p2, f2, e2, t2⟩ := Cond.arrayClass_spec (hts (.arrayClass .long) (by decide +kernel))
  obtain ⟨a3, k3, p3, f3, e3, t3⟩ := Cond.arrayClass_spec (hts (.arrayClass .boolean) (by decide +kernel))
  have hO0 := hts (.arrayOver (.object RX0)) (by decide +kernel)
  have hO2 := hts (.arrayOver (.object RX2)) (by decide +kernel)
  obtain ⟨p4, a4, k4, g4, -, e4, t4, f4⟩ := Cond.arrayOver_spec hO0
  obtain ⟨p5, a5, k5, g5, -, e5, t5, f5⟩ := Cond.arrayOver_spec hO2
  refine ⟨(fun k => match k with
    | 0 => c0
    | 1 => c1
    | 2 => c2
    | 3 => c3
    | _ => c4, fun k => match k with
    | 0 => i0
    | 1 => i1
    | 2 => i2
    | 3 => i3
    | _ => i4), fun k => match k with
    | 0 => a0
    | 1 => a1
    | 2 => a2
    | 3 => a3
    | 4 => a4
    | _ => a5, ⟨?_, ?_⟩, ?_, ?_, va_AO.of hO0, va_AO.of hO2⟩
  · intro k q hq
    match k, hq with
    | 0, hq => cases hq; exact h0
    | 1, hq => cases hq; exact h1
    | 2, hq => cases hq; exact h2
    | 3, hq => cases hq; exact h3
    | 4, hq => cases hq; exact h4
    | k + 5, hq => simp [vwCl] at hq
  · intro k q hq
    match k, hq with
    | 0, hq => cases hq; exact ⟨fun n z => ⟨fun k h => (by cases h), k0, e0, p0, t0⟩, f0⟩
    | 1, hq => cases hq; exact ⟨fun n z => ⟨fun k h => (by cases h), k1, e1, p1, t1⟩, f1⟩
    | 2, hq => cases hq; exact ⟨fun n z => ⟨fun k h => (by cases h), k2, e2, p2, t2⟩, f2⟩
    | 3, hq => cases hq; exact ⟨fun n z => ⟨fun k h => (by cases h), k3, e3, p3, t3⟩, f3⟩
    | 4, hq => cases hq; exact ⟨fun n z => ⟨fun k h => (by cases h), k4, e4, p4, t4⟩, k4, p4, e4, t4, g4, f4⟩
    | 5, hq => cases hq; exact ⟨fun n z => ⟨fun k h => (by cases h), k5, e5, p5, t5⟩, k5, p5, e5, t5, g5, f5⟩
    | k + 6, hq => simp [ty6] at hq
  · intro q hq
    exact va_Nw.of rfl (hts _ (nestM_in q hq))
  · intro q hq
    exact va_Nw.of rfl (hts _ (nestF_in q hq))
/-- between two calls: both objects hold one state, apart -/
def LI (D : va_G) (g : Nat → ClassId) (b0 : Nat) (H0 : Heap) (A μ : Nat → Nat) (σ : SG) (nC : Nat) (x : Nat → Nat → Int32) (dw : Nat → Int64) (H : Heap) : Prop := CR D g b0 A σ dw H ∧ MC D g b0 μ (sV σ) (sB σ) nC x H ∧ MR σ x ∧ MK σ nC x ∧ (∀ i, i ≤ 10 → ∀ c, cLive σ c → μ i ≠ A c) ∧ ∀ q, q < b0 → H[q]? = H0[q]?
theorem MC.ltH {D : va_G} {g : Nat → ClassId} {b0 : Nat} {μ : Nat → Nat} {nV nB nC : Nat} {x : Nat → Nat → Int32} {H : Heap} (h : MC D g b0 μ nV nB nC x H) {i : Nat} (hi : i ≤ 10) : μ i < H.size := by
  rcases Nat.eq_zero_or_pos i with z | z
  · subst z; exact h.o.lt
  · exact (h.2.2.2 i z hi).lt
theorem LI.cls {D : va_G} {g : Nat → ClassId} {b0 : Nat} {H0 H H1 : Heap} {A μ A1 : Nat → Nat} {σ σ1 : SG} {nC : Nat} {x : Nat → Nat → Int32} {dw dw1 : Nat → Int64} (h : LI D g b0 H0 A μ σ nC x dw H) (hC : CR D g b0 A1 σ1 dw1 H1) (hF : CFr H A σ H1 A1 σ1) :
    MC D g b0 μ (sV σ) (sB σ) nC x H1 ∧ (∀ i, i ≤ 10 → ∀ c, cLive σ1 c → μ i ≠ A1 c) ∧ (∀ q, q < b0 → H1[q]? = H0[q]?) ∧ b0 ≤ H1.size := by
  obtain ⟨hC0, hM, -, -, hdis, hold⟩ := h
  have h0 : b0 < H.size := Nat.lt_of_le_of_lt (hC0.ge (cl0 (c := 0) (by omega))) hC0.o.lt
  have key : ∀ i, i ≤ 10 → H1[μ i]? = H[μ i]? ∧ ∀ c, cLive σ1 c → μ i ≠ A1 c := fun i hi => hF.2.1 (μ i) (hM.ltH hi) (fun c hc => hdis i hi c hc)
  refine ⟨hM.keep (fun q _ ⟨i, hi, e⟩ => by rw [e]; exact (key i hi).1), fun i hi => (key i hi).2, fun q hq => ?_, Nat.le_trans (Nat.le_of_lt h0) hF.1⟩
  exact (hF.2.1 q (by omega) (fun c hc e => by have := hC0.ge hc; omega)).1.trans (hold q hq)
theorem LI.ref {D : va_G} {g : Nat → ClassId} {b0 : Nat} {H0 H1 H2 : Heap} {μ A1 : Nat → Nat} {σ1 : SG} {dw1 : Nat → Int64} (hC : CR D g b0 A1 σ1 dw1 H1) (hdis : ∀ i, i ≤ 10 → ∀ c, cLive σ1 c → μ i ≠ A1 c) (hold : ∀ q, q < b0 → H1[q]? = H0[q]?) (hP : MPost D g b0 μ H1 σ1 H2) :
    ∃ (nC : Nat) (x : Nat → Nat → Int32), LI D g b0 H0 A1 μ σ1 nC x dw1 H2 ∧ b0 ≤ H2.size := by
  obtain ⟨nC, x, hM, hR, hMK, hF⟩ := hP
  have h0 : b0 < H1.size := Nat.lt_of_le_of_lt (hC.ge (cl0 (c := 0) (by omega))) hC.o.lt
  refine ⟨nC, x, ⟨hC.keep (fun q hq hc => ?_), hM, hR, hMK, hdis, fun q hq => ?_⟩, Nat.le_trans (Nat.le_of_lt h0) hF.1⟩
  · obtain ⟨c, hc, e⟩ := hc
    exact hF.2 q hq (fun i hi e2 => hdis i hi c hc (by rw [← e2, e]))
  · exact (hF.2 q (by omega) (fun i hi e => by have := hM.ge hi; omega)).trans (hold q hq)
theorem law_S {H0 H : Heap} {locs : List Loc} (hsz : H0.size ≤ H.size) (hold : ∀ q, q < H0.size → H[q]? = H0[q]?) (hLB : LB H0.size locs) : va_S (fun q => H0.size ≤ q) H0 H locs := ⟨hsz, fun q hq _ => hold q hq, hLB⟩
theorem law_gt {L k : Nat} (hL : L ≤ 2048) (hk : k ≤ 4096) : (nI L - nI 4 < nI k) ↔ L < k + 4 := by
  rw [Int32.lt_iff_toInt_lt, Int32.toInt_sub, nI_toInt (by omega), nI_toInt (by omega), nI_toInt (by omega), Int.bmod_eq_of_le (by omega) (by omega)]
  omega
theorem law_15 (x : Int32) : ∃ z, z < 16 ∧ x &&& nI 15 = nI z := by
  refine ⟨(x &&& nI 15).toBitVec.toNat, ?_, Int32.toBitVec_inj.mp ?_⟩
  · rw [Int32.toBitVec_and, BitVec.toNat_and, show (nI 15).toBitVec.toNat = 15 from by decide +kernel]
    exact Nat.lt_succ_of_le Nat.and_le_right
  · show _ = BitVec.ofNat 32 _
    simp
-- one answer
theorem SpHead.one {σ σ1 : SG} {i r r' : Int32} (hw : WF σ) (h : SpHead σ i r σ1) (h' : SpHead σ i r' σ) : r = r' := by
  obtain ⟨-, h⟩ := h
  obtain ⟨-, h'⟩ := h'
  rcases h with ⟨h1, h2⟩ | ⟨b, hb, e, h2⟩ <;> rcases h' with ⟨h1', h2'⟩ | ⟨b', hb', e', h2'⟩
  · rw [h2, h2']
  · exact absurd e' (h1 b' hb')
  · exact absurd e (h1' b hb)
  · have := brI hw hb hb' (e.symm.trans e')
    subst this
    rw [h2, h2']
theorem GC1.one {σ : SG} {u v c c' : Nat} (h : GC1 σ u v c) (h' : GC1 σ u v c') : c = c' := by
  rcases Nat.lt_trichotomy c c' with z | z | z
  · exact absurd ⟨h'.2.1, h'.2.2.1⟩ (h.2.2.2 c' z h'.1)
  · exact z
  · exact absurd ⟨h.2.1, h.2.2.1⟩ (h'.2.2.2 c z h.1)
theorem SpBase.one {σ σ1 : SG} {i j r r' : Int32} (hw : WF σ) (h : SpBase σ i j r σ1) (h' : SpBase σ i j r' σ) : r = r' := by
  obtain ⟨-, h⟩ := h
  obtain ⟨-, h'⟩ := h'
  rcases h with ⟨h1, h2⟩ | ⟨a, b, ha, hb, e, f, h2⟩ <;> rcases h' with ⟨h1', h2'⟩ | ⟨a', b', ha', hb', e', f', h2'⟩
  · rw [h2, h2']
  · rcases h1 with h1 | h1
    · exact absurd e' (h1 a' ha')
    · exact absurd f' (h1 b' hb')
  · rcases h1' with h1 | h1
    · exact absurd e (h1 a ha)
    · exact absurd f (h1 b hb)
  · have := brI hw ha ha' (e.symm.trans e')
    subst this
    have := brI hw hb hb' (f.symm.trans f')
    subst this
    rcases h2 with ⟨g1, g2⟩ | ⟨c, g1, g2⟩ <;> rcases h2' with ⟨g1', g2'⟩ | ⟨c', g1', g2'⟩
    · rw [g2, g2']
    · exact absurd ⟨g1'.2.1, g1'.2.2.1⟩ (g1 c' g1'.1)
    · exact absurd ⟨g1.2.1, g1.2.2.1⟩ (g1' c g1.1)
    · have := g1.one g1'
      subst this
      rw [g2, g2']
theorem SpInverse.one {σ σ1 : SG} {i r r' : Int32} (h : SpInverse σ i r σ1) (h' : SpInverse σ i r' σ) : r = r' := by
  obtain ⟨-, h⟩ := h
  obtain ⟨-, h'⟩ := h'
  rcases h with ⟨h1, h2⟩ | ⟨h1, h2⟩ <;> rcases h' with ⟨h1', h2'⟩ | ⟨h1', h2'⟩
  · rw [h2, h2']
  · exact absurd h1 h1'
  · exact absurd h1' h1
  · rw [h2, h2']
/-- the place of a count is one -/
theorem cnt_one {p : Nat → Bool} {n : Nat} (hn : n < 2 ^ 31) {i : Int32} {k k' : Nat} (hk : k < n) (hk' : k' < n) (hp : p k = true) (hp' : p k' = true) (h : nI (cnt p k) = i) (h' : nI (cnt p k') = i) : k = k' := by
  have e : cnt p k = cnt p k' := (nI_eq (by have := cnt_le p k; omega) (by have := cnt_le p k'; omega)).mp (h.trans h'.symm)
  rcases Nat.lt_trichotomy k k' with z | z | z
  · have := cnt_lt p z hp; omega
  · exact z
  · have := cnt_lt p z hp'; omega
theorem Least.one {p : Nat → Bool} {k : Nat} {r r' : Int32} (h : Least p k r) (h' : Least p k r') : r = r' := by
  obtain ⟨o, o1, o2, o3, o4⟩ := h
  obtain ⟨u, u1, u2, u3, u4⟩ := h'
  rcases Nat.lt_trichotomy o u with z | z | z
  · rw [u3 o z] at o2; cases o2
  · subst z; rw [o4, u4]
  · rw [o3 u z] at u2; cases u2
theorem Great.one {p : Nat → Bool} {k : Nat} {r r' : Int32} (h : Great p k r) (h' : Great p k r') : r = r' := by
  obtain ⟨o, o1, o2, o3, o4⟩ := h
  obtain ⟨u, u1, u2, u3, u4⟩ := h'
  rcases Nat.lt_trichotomy o u with z | z | z
  · rw [o3 u z u1] at u2; cases u2
  · subst z; rw [o4, u4]
  · rw [u3 o z o1] at o2; cases o2
theorem SpConflict.one {σ σ1 : SG} {i w r r' : Int32} (h : SpConflict σ i w r σ1) (h' : SpConflict σ i w r' σ) : r = r' := by
  obtain ⟨-, h⟩ := h
  obtain ⟨-, h'⟩ := h'
  rcases h with ⟨k, k1, k2, k3, k4⟩ | ⟨h1, h2⟩ <;> rcases h' with ⟨k', k1', k2', k3', k4'⟩ | ⟨h1', h2'⟩
  · have := cnt_one (by decide) k1 k1' k2 k2' k3 k3'
    subst this
    rcases k4 with ⟨a, b⟩ | ⟨a, b⟩ | ⟨a, b⟩ | ⟨a, a2, a3, b⟩ <;> rcases k4' with ⟨a', b'⟩ | ⟨a', b'⟩ | ⟨a', b'⟩ | ⟨a', a2', a3', b'⟩
    · rw [b, b']
    · rw [a] at a'; exact absurd a' (by decide)
    · rw [a] at a'; exact absurd a' (by decide)
    · exact absurd a a'
    · rw [a] at a'; exact absurd a' (by decide)
    · exact b.one b'
    · rw [a] at a'; exact absurd a' (by decide)
    · exact absurd a a2'
    · rw [a] at a'; exact absurd a' (by decide)
    · rw [a] at a'; exact absurd a' (by decide)
    · exact b.one b'
    · exact absurd a a3'
    · exact absurd a' a
    · exact absurd a' a2
    · exact absurd a' a3
    · rw [b, b']
  · exact absurd k3 (h1' k k1 k2)
  · exact absurd k3' (h1 k' k1' k2')
  · rw [h2, h2']
theorem SpHistory.one {σ σ1 : SG} {ti i r r' : Int32} (hw : WF σ) (h : SpHistory σ ti i r σ1) (h' : SpHistory σ ti i r' σ) : r = r' := by
  have hV := hw.2.1
  obtain ⟨-, h⟩ := h
  obtain ⟨-, h'⟩ := h'
  rcases h with ⟨h1, h2⟩ | ⟨t, t1, t2, t3, h2⟩ <;> rcases h' with ⟨h1', h2'⟩ | ⟨t', t1', t2', t3', h2'⟩
  · rw [h2, h2']
  · rcases h1 with h1 | h1
    · rw [t2', isTb_nI t1'] at h1; cases h1
    · exact absurd h1 t3'
  · rcases h1' with h1 | h1
    · rw [t2, isTb_nI t1] at h1; cases h1
    · exact absurd h1 t3
  · have := (nI_eq (by omega) (by omega)).mp (t2.symm.trans t2')
    subst this
    rcases h2 with ⟨k, k1, k2, k3, k4⟩ | ⟨g1, g2⟩ <;> rcases h2' with ⟨k', k1', k2', k3', k4'⟩ | ⟨g1', g2'⟩
    · have := cnt_one (show sV σ < 2 ^ 31 by omega) k1 k1' k2 k2' k3 k3'
      subst this
      rw [k4, k4']
    · exact absurd k3 (g1' k k1 k2)
    · exact absurd k3' (g1 k' k1' k2')
    · rw [g2, g2']
theorem SpReport.one {σ σ1 : SG} {i r r' : Int32} (hw : WF σ) (h : SpReport σ i r σ1) (h' : SpReport σ i r' σ) : r = r' := by
  obtain ⟨-, h⟩ := h
  obtain ⟨-, h'⟩ := h'
  rcases h with ⟨h1, h2⟩ | ⟨b, hb, e, h2⟩ <;> rcases h' with ⟨h1', h2'⟩ | ⟨b', hb', e', h2'⟩
  · rw [h2, h2']
  · exact absurd e' (h1 b' hb')
  · exact absurd e (h1' b hb)
  · have := brI hw hb hb' (e.symm.trans e')
    subst this
    rw [h2, h2']
theorem SpVersions.one {σ σ1 : SG} {r r' : Int32} (h : SpVersions σ r σ1) (h' : SpVersions σ r' σ) : r = r' := h.2.trans h'.2.symm
theorem SpBranches.one {σ σ1 : SG} {r r' : Int32} (h : SpBranches σ r σ1) (h' : SpBranches σ r' σ) : r = r' := h.2.trans h'.2.symm
set_option maxHeartbeats 16000000 in
set_option maxRecDepth 100000 in
theorem whole_start {p : Program} {e : Env} {s : State} {m : MethodId} {below : List Frame} {meth : Method} {c : Code} (l : Launch) (hflags : l.flags = flags0) {b L : Nat} {xs : Nat → Int32} (hL : L ≤ 2048) (C0 : lw_At p s m meth c b L xs) : W p l e room_1 s m #[Value.ref b] below meth c s.heap [] 0 0 (lw_Z below #[Value.ref b] s) (entryFrame m ([Value.ref b] : List Value).toArray 4) := by
  obtain ⟨hx, hb, hr, hml, hown, hts0, hX, hbl, hlocks, hgv⟩ := id C0
  have hts : ∀ w ∈ wsL_law, w.before #[Value.ref b] s = true := fun w hw => hts0 w (wsL_law_in w hw)
  obtain ⟨D, g, hK⟩ := law_KK hts0
  have hl := lv_entry ([.ref b]) (n := 4) (Nat.le_of_ble_eq_true rfl)
  rw [lg_entry_eq]
  generalize (lg_sl ([.ref b]) ++ List.replicate (4 - (lg_sl ([.ref b])).length) Slot.unset).toArray = ls at hl ⊢
  have hl : lv_has ls 4 [(0, .ref b)] := hl
  have hF0 : Fr (fun _ => False) s.heap s.heap := Fr.rf
  refine k_new (ci := 3) (C := RX3) (T := TX3) (N := 7) (fs := [.null, .null, .int (0), .int (0), .null, .null, .null]) hx hb hts (by decide +kernel) tyX3 tyX3_ok hown (hts (.classLink RL 7 RX3) (by decide +kernel)) (hts (.instantiable RX3 7) (by decide +kernel)) (hts (.initialized RX3) (by decide +kernel)) hK rfl (fun j hj => by rcases (show j = 0 ∨ j = 1 ∨ j = 2 ∨ j = 3 ∨ j = 4 ∨ j = 5 ∨ j = 6 by omega) with rfl | rfl | rfl | rfl | rfl | rfl | rfl <;> rfl) (Nat.le_of_ble_eq_true rfl) (Nat.le_of_ble_eq_true rfl) dL_law_0 (fun q_1630 H_1631 ho_1632 hA_1633 => ?_)
  refine W.widen (k := 1) (n := 7) (Nat.le_of_ble_eq_true rfl) (Nat.le_of_ble_eq_true rfl) ?_
  have hqe_q_1630 := hA_1633.1
  have hF_1634 := hF0.add hA_1633
  have hz_1635 := hA_1633.2.1
  refine lv_dup hx hb dL_law_3 rfl ?_
  refine k_callU (va_runI (As := []) (rest := [.ref q_1630]) ⟨hx, hb, hml, hown, hts⟩ (c_X3_init l D g s.heap.size H_1631 q_1630 ho_1632 (by omega) (by omega)) (cwI 0 hts gL_law_X3_init rfl rfl rfl (hts (.initialized RX3) (by decide +kernel)) (hts (.methodLink RL 9 yX3_init) (by decide +kernel)) (hts (.instanceMethod yX3_init) (by decide +kernel)) rfl (by decide +kernel) ⟨Nat.le_of_ble_eq_true rfl, Nat.le_of_ble_eq_true rfl⟩) ⟨kPc_blind, fun U hU hW => kPc_at hK hU hW⟩ rfl rfl hl.1 rfl (lv_room (Nat.le_of_ble_eq_true rfl)) dL_law_4 ⟨Nat.le_of_ble_eq_true rfl, Nat.le_of_ble_eq_true rfl⟩) LB.nil (fun Hx locsx hLBx hqx => ?_)
  refine W.widen (k := 14) (n := 1113) (Nat.le_of_ble_eq_true rfl) (Nat.le_of_ble_eq_true rfl) ?_
  obtain ⟨A, σ, dw, hC, hA0, hIni, hCx⟩ := hqx
  have hFx : Fr (fun _ => False) Hx Hx := Fr.rf
  have hszx := hCx.1
  have hLAx : ∀ c, cLive σ c → A c < Hx.size := fun c hc => hC.lt hc
  refine lv_astore_n (lv' := [(1, .ref q_1630), (0, .ref b)]) hx hb dL_law_7 rfl hl (by decide) rfl (fun ls hl => ?_)
  refine k_new (ci := 4) (C := RX4) (T := TX4) (N := 13) (fs := [.null, .null, .null, .int (0), .null, .int (0), .null, .null, .null, .null, .null, .null, .int (0)]) hx hb hts (by decide +kernel) tyX4 tyX4_ok hown (hts (.classLink RL 10 RX4) (by decide +kernel)) (hts (.instantiable RX4 13) (by decide +kernel)) (hts (.initialized RX4) (by decide +kernel)) hK rfl (fun j hj => by rcases (show j = 0 ∨ j = 1 ∨ j = 2 ∨ j = 3 ∨ j = 4 ∨ j = 5 ∨ j = 6 ∨ j = 7 ∨ j = 8 ∨ j = 9 ∨ j = 10 ∨ j = 11 ∨ j = 12 by omega) with rfl | rfl | rfl | rfl | rfl | rfl | rfl | rfl | rfl | rfl | rfl | rfl | rfl <;> rfl) (Nat.le_of_ble_eq_true rfl) (Nat.le_of_ble_eq_true rfl) dL_law_8 (fun q_1636 H_1637 ho_1638 hA_1639 => ?_)
  refine W.widen (k := 15) (n := 1126) (Nat.le_of_ble_eq_true rfl) (Nat.le_of_ble_eq_true rfl) ?_
  have hqe_q_1636 := hA_1639.1
  have hF_1640 := hFx.add hA_1639
  have hz_1641 := hA_1639.2.1
  refine lv_dup hx hb dL_law_11 rfl ?_
  refine k_callU (va_runI (As := []) (rest := [.ref q_1636]) ⟨hx, hb, hml, hown, hts⟩ (c_X4_init l D g s.heap.size H_1637 q_1636 ho_1638 (by omega) (by omega)) (cwI 0 hts gL_law_X4_init rfl rfl rfl (hts (.initialized RX4) (by decide +kernel)) (hts (.methodLink RL 12 yX4_init) (by decide +kernel)) (hts (.instanceMethod yX4_init) (by decide +kernel)) rfl (by decide +kernel) ⟨Nat.le_of_ble_eq_true rfl, Nat.le_of_ble_eq_true rfl⟩) ⟨kPc_blind, fun U hU hW => kPc_at hK hU hW⟩ rfl rfl hl.1 rfl (lv_room (Nat.le_of_ble_eq_true rfl)) dL_law_12 ⟨Nat.le_of_ble_eq_true rfl, Nat.le_of_ble_eq_true rfl⟩) hLBx (fun Hm locsm hLBm hqm => ?_)
  refine W.widen (k := 25) (n := 1645454) (Nat.le_of_ble_eq_true rfl) (Nat.le_of_ble_eq_true rfl) ?_
  obtain ⟨μ, hM, hμ0, hμs, hChm⟩ := hqm
  have hdis : ∀ i, i ≤ 10 → ∀ c, cLive σ c → μ i ≠ A c := by
    intro i hi c hc e
    have h1 := hC.lt hc
    rcases Nat.eq_zero_or_pos i with z | z
    · subst z; rw [hμ0] at e; omega
    · have := hμs i z hi; omega
  have hLI : LI D g s.heap.size s.heap A μ σ 0 x0 dw Hm := by
    have hV := hIni.1
    have hB := hIni.2.1
    refine ⟨hC.keep (fun q hq hc => ?_), by rw [hV, hB]; exact hM, hIni.mr hC.wf, hIni.mk, hdis, fun q hq => ?_⟩
    · obtain ⟨c, hc, e⟩ := hc
      exact (hChm.2 q (by omega) (by omega)).trans (hF_1640.2 q hq (fun z => z))
    · exact (hChm.2 q (by omega) (by omega)).trans ((hF_1640.2 q (by omega) (fun z => z)).trans ((hCx.2 q (by omega) (by omega)).trans (hF_1634.2 q hq (fun z => z))))
  have hszm : s.heap.size ≤ Hm.size := by have := hChm.1; omega
  refine lv_astore_n (lv' := [(2, .ref q_1636), (1, .ref q_1630), (0, .ref b)]) hx hb dL_law_15 rfl hl (by decide) rfl (fun ls hl => ?_)
  refine lv_iconst (v := nI 0) hx hb dL_law_16 (by decide +kernel) ?_
  refine lv_istore_n (lv' := [(3, .int (nI 0)), (2, .ref q_1636), (1, .ref q_1630), (0, .ref b)]) hx hb dL_law_17 rfl hl (by decide) rfl (fun ls hl => ?_)
  refine W.widen (k := 25 + 5 * 0) (n := 1645454 + 471 * 0) (by omega) (by omega) ?_
  have loop : ∀ (N k : Nat) (A : Nat → Nat) (σ : SG) (nC : Nat) (x : Nat → Nat → Int32) (dw : Nat → Int64) (H : Heap) (locs : List Loc), 512 < k + N → k ≤ 512 → LI D g s.heap.size s.heap A μ σ nC x dw H → s.heap.size ≤ H.size → LB s.heap.size locs → ∀ ls, lv_has ls 4 [(3, .int (nI (4 * k))), (0, .ref b), (1, .ref (A 0)), (2, .ref (μ 0))] → W p l e room_1 s m #[Value.ref b] below meth c H locs (25 + 5 * k) (1645454 + 471 * k) (lw_Z below #[Value.ref b] s) (F0 m 18 ls []) := by
    intro N
    induction N with
    | zero => intro k A σ nC x dw H locs h0 h1; omega
    | succ N ih =>
      intro k A σ nC x dw H locs hN hk hLI hsz hLB ls hl
      have hold := hLI.2.2.2.2.2
      refine lv_iload_n hx hb dL_law_18 rfl (lv_at hl 0 rfl) ?_
      refine lv_aload_n hx hb dL_law_19 rfl (lv_at hl 1 rfl) ?_
      refine va_slen (A := fun q : Nat => s.heap.size ≤ q) hx hb hX hbl (Nat.not_le.mpr hbl) (law_S hsz hold hLB) dL_law_20 ?_
      refine lv_topi (nm_r (show Int32.ofNat L = nI L from rfl) ?_)
      refine lv_iconst (v := nI 4) hx hb dL_law_21 (by decide +kernel) ?_
      refine lv_isub hx hb dL_law_22 ?_
      refine lv_icmp_gt (tgt := 612) hx hb dL_law_23 (by decide) (fun c_1642 => ?_) (fun c_1642 => ?_)
      · skip
        refine lv_iconst (v := 1) hx hb dL_law_612 (by decide +kernel) ?_
        refine va_forget hLB ?_
        refine W.widen (k := 600000) (n := 7302250) (by omega) (by omega) ?_
        exact lw_ret hx hb hr hlocks dL_law_613
      · skip
        have hk4 : 4 * k + 4 ≤ L := Nat.not_lt.mp (fun z => c_1642 ((law_gt hL (by omega)).mpr z))
        have hC := hLI.1
        have hM := hLI.2.1
        have hR := hLI.2.2.1
        have hMK := hLI.2.2.2.1
        refine lv_aload_n hx hb dL_law_26 rfl (lv_at hl 1 rfl) ?_
        refine lv_iload_n hx hb dL_law_27 rfl (lv_at hl 0 rfl) ?_
        refine va_sld (A := fun q : Nat => s.heap.size ≤ q) hx hb hX hbl (Nat.not_le.mpr hbl) (law_S hsz hold hLB) (nI_in (c := 4 * k) (by omega) (by omega)) dL_law_28 ?_
        rw [nI_clamp (show 4 * k < 2 ^ 31 by omega)]
        refine lv_bipush (v := nI 15) hx hb dL_law_29 (by decide +kernel) ?_
        refine lv_iand hx hb dL_law_31 ?_
        obtain ⟨z, hz, hzz⟩ := law_15 (xs (4 * k))
        rw [hzz]
        rcases (show z = 0 ∨ z = 1 ∨ z = 2 ∨ z = 3 ∨ z = 4 ∨ z = 5 ∨ z = 6 ∨ z = 7 ∨ z = 8 ∨ z = 9 ∨ z = 10 ∨ z = 11 ∨ z = 12 ∨ z = 13 ∨ z = 14 ∨ z = 15 by omega) with rfl | rfl | rfl | rfl | rfl | rfl | rfl | rfl | rfl | rfl | rfl | rfl | rfl | rfl | rfl | rfl
        · skip
          refine lv_tableIn (off := 80) (tgt := 112) hx hb dL_law_32 (by decide +kernel) (by decide +kernel) (by decide +kernel) (by decide) ?_
          refine lv_aload_n hx hb dL_law_112 rfl (lv_at hl 2 rfl) ?_
          refine lv_aload_n hx hb dL_law_113 rfl (lv_at hl 1 rfl) ?_
          refine lv_iload_n hx hb dL_law_114 rfl (lv_at hl 0 rfl) ?_
          refine lv_iconst (v := nI 1) hx hb dL_law_115 (by decide +kernel) ?_
          refine lv_iadd hx hb dL_law_116 ?_
          refine lv_topi (nm_r (show (nI (4 * k)) + (nI 1) = nI (4 * k + 1) from nI_add _ _) ?_)
          refine va_sld (A := fun q : Nat => s.heap.size ≤ q) hx hb hX hbl (Nat.not_le.mpr hbl) (law_S hsz hold hLB) (nI_in (c := 4 * k + 1) (by omega) (by omega)) dL_law_117 ?_
          rw [nI_clamp (show 4 * k + 1 < 2 ^ 31 by omega)]
          refine k_callI (va_runV (As := [.int (xs (4 * k + 1))]) (rest := []) ⟨hx, hb, hml, hown, hts⟩ (c_X3_branch l D g s.heap.size H A σ dw hC hsz (xs (4 * k + 1))) (cwV 1 hts gL_law_X3_branch rfl rfl rfl (by decide +kernel) ⟨Nat.le_of_ble_eq_true rfl, Nat.le_of_ble_eq_true rfl⟩) ⟨kPc_blind, k_recv hK hC.o rfl, fun U hU hW => kPc_at hK hU hW⟩ rfl rfl hl.1 rfl (lv_room (Nat.le_of_ble_eq_true rfl)) dL_law_118 ⟨(by show 25 + 5 * k + 5 ≤ 600000; omega), (by show 1645454 + 471 * k + 471 ≤ 7302250; omega)⟩) hLB (fun r0 H1 locs1 hLB1 hq1 => ?_)
          refine W.widen (k := 25 + 5 * (k + 1)) (n := 1645454 + 471 * (k + 1)) (by omega) (by omega) ?_
          obtain ⟨A1, σ1, dw1, hC1, hF1, hS1⟩ := hq1
          obtain ⟨hM1, hdis1, hold1, hsz1⟩ := hLI.cls hC1 hF1
          refine lv_pop hx hb dL_law_121 rfl ?_
          refine lv_aload_n hx hb dL_law_122 rfl (lv_at hl 3 rfl) ?_
          refine lv_aload_n hx hb dL_law_123 rfl (lv_at hl 1 rfl) ?_
          refine lv_iload_n hx hb dL_law_124 rfl (lv_at hl 0 rfl) ?_
          refine lv_iconst (v := nI 1) hx hb dL_law_125 (by decide +kernel) ?_
          refine lv_iadd hx hb dL_law_126 ?_
          refine lv_topi (nm_r (show (nI (4 * k)) + (nI 1) = nI (4 * k + 1) from nI_add _ _) ?_)
          refine va_sld (A := fun q : Nat => s.heap.size ≤ q) hx hb hX hbl (Nat.not_le.mpr hbl) (law_S hsz1 hold1 hLB1) (nI_in (c := 4 * k + 1) (by omega) (by omega)) dL_law_127 ?_
          rw [nI_clamp (show 4 * k + 1 < 2 ^ 31 by omega)]
          refine k_callI (va_runV (As := [.int (xs (4 * k + 1))]) (rest := []) ⟨hx, hb, hml, hown, hts⟩ (c_X4_branch l D g s.heap.size H1 μ σ nC x hM1 hR hMK (xs (4 * k + 1))) (cwV 1 hts gL_law_X4_branch rfl rfl rfl (by decide +kernel) ⟨Nat.le_of_ble_eq_true rfl, Nat.le_of_ble_eq_true rfl⟩) ⟨kPc_blind, k_recv hK hM1.o rfl, fun U hU hW => kPc_at hK hU hW⟩ rfl rfl hl.1 rfl (lv_room (Nat.le_of_ble_eq_true rfl)) dL_law_128 ⟨(by show 25 + 5 * (k + 1) + 0 ≤ 600000; omega), (by show 1645454 + 471 * (k + 1) + 0 ≤ 7302250; omega)⟩) hLB1 (fun r2 H2 locs2 hLB2 hq2 => ?_)
          refine W.widen (k := 25 + 5 * (k + 1)) (n := 1645454 + 471 * (k + 1)) (by omega) (by omega) ?_
          obtain ⟨hrr, hP2⟩ := hq2 r0 σ1 hS1
          obtain ⟨nC2, x2, hLI2, hsz2⟩ := LI.ref hC1 hdis1 hold1 hP2
          refine lv_pop hx hb dL_law_131 rfl ?_
          refine lv_goto (tgt := 606) hx hb dL_law_132 (by decide) ?_
          refine lv_iinc (v := nI (4 * k + 4)) (lv' := [(3, .int (nI (4 * k + 4))), (0, .ref b), (1, .ref (A 0)), (2, .ref (μ 0))]) hx hb dL_law_606 hl (k := 0) rfl (nI_add (4 * k) 4) (by decide) rfl (fun ls hl => ?_)
          refine lv_goto (tgt := 18) hx hb dL_law_609 (by decide) ?_
          refine ih (k + 1) A1 σ1 nC2 x2 dw1 H2 locs2 (by omega) (by omega) hLI2 hsz2 hLB2 ls ?_
          rw [hF1.2.2, show 4 * (k + 1) = 4 * k + 4 by omega]
          exact (lv_sub hl [0, 1, 2, 3] rfl)
        · skip
          refine lv_tableIn (off := 103) (tgt := 135) hx hb dL_law_32 (by decide +kernel) (by decide +kernel) (by decide +kernel) (by decide) ?_
          by_cases hz3 : xs (4 * k + 3) = 0
          · skip
            refine lv_aload_n hx hb dL_law_135 rfl (lv_at hl 2 rfl) ?_
            refine lv_aload_n hx hb dL_law_136 rfl (lv_at hl 1 rfl) ?_
            refine lv_iload_n hx hb dL_law_137 rfl (lv_at hl 0 rfl) ?_
            refine lv_iconst (v := nI 1) hx hb dL_law_138 (by decide +kernel) ?_
            refine lv_iadd hx hb dL_law_139 ?_
            refine lv_topi (nm_r (show (nI (4 * k)) + (nI 1) = nI (4 * k + 1) from nI_add _ _) ?_)
            refine va_sld (A := fun q : Nat => s.heap.size ≤ q) hx hb hX hbl (Nat.not_le.mpr hbl) (law_S hsz hold hLB) (nI_in (c := 4 * k + 1) (by omega) (by omega)) dL_law_140 ?_
            rw [nI_clamp (show 4 * k + 1 < 2 ^ 31 by omega)]
            refine lv_aload_n hx hb dL_law_141 rfl (lv_at hl 1 rfl) ?_
            refine lv_iload_n hx hb dL_law_142 rfl (lv_at hl 0 rfl) ?_
            refine lv_iconst (v := nI 2) hx hb dL_law_143 (by decide +kernel) ?_
            refine lv_iadd hx hb dL_law_144 ?_
            refine lv_topi (nm_r (show (nI (4 * k)) + (nI 2) = nI (4 * k + 2) from nI_add _ _) ?_)
            refine va_sld (A := fun q : Nat => s.heap.size ≤ q) hx hb hX hbl (Nat.not_le.mpr hbl) (law_S hsz hold hLB) (nI_in (c := 4 * k + 2) (by omega) (by omega)) dL_law_145 ?_
            rw [nI_clamp (show 4 * k + 2 < 2 ^ 31 by omega)]
            refine lv_aload_n hx hb dL_law_146 rfl (lv_at hl 1 rfl) ?_
            refine lv_iload_n hx hb dL_law_147 rfl (lv_at hl 0 rfl) ?_
            refine lv_iconst (v := nI 3) hx hb dL_law_148 (by decide +kernel) ?_
            refine lv_iadd hx hb dL_law_149 ?_
            refine lv_topi (nm_r (show (nI (4 * k)) + (nI 3) = nI (4 * k + 3) from nI_add _ _) ?_)
            refine va_sld (A := fun q : Nat => s.heap.size ≤ q) hx hb hX hbl (Nat.not_le.mpr hbl) (law_S hsz hold hLB) (nI_in (c := 4 * k + 3) (by omega) (by omega)) dL_law_150 ?_
            rw [nI_clamp (show 4 * k + 3 < 2 ^ 31 by omega)]
            refine lv_if_eq (tgt := 158) hx hb dL_law_151 (by decide) (fun _ => ?_) (fun q => absurd hz3 q)
            refine lv_iconst (v := b2i false) hx hb dL_law_158 (by decide +kernel) ?_
            refine k_callI (va_runV (As := [.int (xs (4 * k + 1)), .int (xs (4 * k + 2)), .int (b2i false)]) (rest := []) ⟨hx, hb, hml, hown, hts⟩ (c_X3_put l D g s.heap.size H A σ dw hC hsz (xs (4 * k + 1)) (xs (4 * k + 2)) (false)) (cwV 3 hts gL_law_X3_put rfl rfl rfl (by decide +kernel) ⟨Nat.le_of_ble_eq_true rfl, Nat.le_of_ble_eq_true rfl⟩) ⟨kPc_blind, k_recv hK hC.o rfl, fun U hU hW => kPc_at hK hU hW⟩ rfl rfl hl.1 rfl (lv_room (Nat.le_of_ble_eq_true rfl)) dL_law_159 ⟨(by show 25 + 5 * k + 4 ≤ 600000; omega), (by show 1645454 + 471 * k + 470 ≤ 7302250; omega)⟩) hLB (fun r0 H1 locs1 hLB1 hq1 => ?_)
            refine W.widen (k := 25 + 5 * (k + 1)) (n := 1645454 + 471 * (k + 1)) (by omega) (by omega) ?_
            obtain ⟨A1, σ1, dw1, hC1, hF1, hS1⟩ := hq1
            obtain ⟨hM1, hdis1, hold1, hsz1⟩ := hLI.cls hC1 hF1
            refine lv_pop hx hb dL_law_162 rfl ?_
            refine lv_aload_n hx hb dL_law_163 rfl (lv_at hl 3 rfl) ?_
            refine lv_aload_n hx hb dL_law_164 rfl (lv_at hl 1 rfl) ?_
            refine lv_iload_n hx hb dL_law_165 rfl (lv_at hl 0 rfl) ?_
            refine lv_iconst (v := nI 1) hx hb dL_law_166 (by decide +kernel) ?_
            refine lv_iadd hx hb dL_law_167 ?_
            refine lv_topi (nm_r (show (nI (4 * k)) + (nI 1) = nI (4 * k + 1) from nI_add _ _) ?_)
            refine va_sld (A := fun q : Nat => s.heap.size ≤ q) hx hb hX hbl (Nat.not_le.mpr hbl) (law_S hsz1 hold1 hLB1) (nI_in (c := 4 * k + 1) (by omega) (by omega)) dL_law_168 ?_
            rw [nI_clamp (show 4 * k + 1 < 2 ^ 31 by omega)]
            refine lv_aload_n hx hb dL_law_169 rfl (lv_at hl 1 rfl) ?_
            refine lv_iload_n hx hb dL_law_170 rfl (lv_at hl 0 rfl) ?_
            refine lv_iconst (v := nI 2) hx hb dL_law_171 (by decide +kernel) ?_
            refine lv_iadd hx hb dL_law_172 ?_
            refine lv_topi (nm_r (show (nI (4 * k)) + (nI 2) = nI (4 * k + 2) from nI_add _ _) ?_)
            refine va_sld (A := fun q : Nat => s.heap.size ≤ q) hx hb hX hbl (Nat.not_le.mpr hbl) (law_S hsz1 hold1 hLB1) (nI_in (c := 4 * k + 2) (by omega) (by omega)) dL_law_173 ?_
            rw [nI_clamp (show 4 * k + 2 < 2 ^ 31 by omega)]
            refine lv_aload_n hx hb dL_law_174 rfl (lv_at hl 1 rfl) ?_
            refine lv_iload_n hx hb dL_law_175 rfl (lv_at hl 0 rfl) ?_
            refine lv_iconst (v := nI 3) hx hb dL_law_176 (by decide +kernel) ?_
            refine lv_iadd hx hb dL_law_177 ?_
            refine lv_topi (nm_r (show (nI (4 * k)) + (nI 3) = nI (4 * k + 3) from nI_add _ _) ?_)
            refine va_sld (A := fun q : Nat => s.heap.size ≤ q) hx hb hX hbl (Nat.not_le.mpr hbl) (law_S hsz1 hold1 hLB1) (nI_in (c := 4 * k + 3) (by omega) (by omega)) dL_law_178 ?_
            rw [nI_clamp (show 4 * k + 3 < 2 ^ 31 by omega)]
            refine lv_if_eq (tgt := 186) hx hb dL_law_179 (by decide) (fun _ => ?_) (fun q => absurd hz3 q)
            refine lv_iconst (v := b2i false) hx hb dL_law_186 (by decide +kernel) ?_
            refine k_callI (va_runV (As := [.int (xs (4 * k + 1)), .int (xs (4 * k + 2)), .int (b2i false)]) (rest := []) ⟨hx, hb, hml, hown, hts⟩ (c_X4_put l D g s.heap.size H1 μ σ nC x hM1 hR hMK (xs (4 * k + 1)) (xs (4 * k + 2)) (false)) (cwV 3 hts gL_law_X4_put rfl rfl rfl (by decide +kernel) ⟨Nat.le_of_ble_eq_true rfl, Nat.le_of_ble_eq_true rfl⟩) ⟨kPc_blind, k_recv hK hM1.o rfl, fun U hU hW => kPc_at hK hU hW⟩ rfl rfl hl.1 rfl (lv_room (Nat.le_of_ble_eq_true rfl)) dL_law_187 ⟨(by show 25 + 5 * (k + 1) + 0 ≤ 600000; omega), (by show 1645454 + 471 * (k + 1) + 0 ≤ 7302250; omega)⟩) hLB1 (fun r2 H2 locs2 hLB2 hq2 => ?_)
            refine W.widen (k := 25 + 5 * (k + 1)) (n := 1645454 + 471 * (k + 1)) (by omega) (by omega) ?_
            obtain ⟨hrr, hP2⟩ := hq2 r0 σ1 hS1
            obtain ⟨nC2, x2, hLI2, hsz2⟩ := LI.ref hC1 hdis1 hold1 hP2
            refine lv_pop hx hb dL_law_190 rfl ?_
            refine lv_goto (tgt := 606) hx hb dL_law_191 (by decide) ?_
            refine lv_iinc (v := nI (4 * k + 4)) (lv' := [(3, .int (nI (4 * k + 4))), (0, .ref b), (1, .ref (A 0)), (2, .ref (μ 0))]) hx hb dL_law_606 hl (k := 0) rfl (nI_add (4 * k) 4) (by decide) rfl (fun ls hl => ?_)
            refine lv_goto (tgt := 18) hx hb dL_law_609 (by decide) ?_
            refine ih (k + 1) A1 σ1 nC2 x2 dw1 H2 locs2 (by omega) (by omega) hLI2 hsz2 hLB2 ls ?_
            rw [hF1.2.2, show 4 * (k + 1) = 4 * k + 4 by omega]
            exact (lv_sub hl [0, 1, 2, 3] rfl)
          · skip
            refine lv_aload_n hx hb dL_law_135 rfl (lv_at hl 2 rfl) ?_
            refine lv_aload_n hx hb dL_law_136 rfl (lv_at hl 1 rfl) ?_
            refine lv_iload_n hx hb dL_law_137 rfl (lv_at hl 0 rfl) ?_
            refine lv_iconst (v := nI 1) hx hb dL_law_138 (by decide +kernel) ?_
            refine lv_iadd hx hb dL_law_139 ?_
            refine lv_topi (nm_r (show (nI (4 * k)) + (nI 1) = nI (4 * k + 1) from nI_add _ _) ?_)
            refine va_sld (A := fun q : Nat => s.heap.size ≤ q) hx hb hX hbl (Nat.not_le.mpr hbl) (law_S hsz hold hLB) (nI_in (c := 4 * k + 1) (by omega) (by omega)) dL_law_140 ?_
            rw [nI_clamp (show 4 * k + 1 < 2 ^ 31 by omega)]
            refine lv_aload_n hx hb dL_law_141 rfl (lv_at hl 1 rfl) ?_
            refine lv_iload_n hx hb dL_law_142 rfl (lv_at hl 0 rfl) ?_
            refine lv_iconst (v := nI 2) hx hb dL_law_143 (by decide +kernel) ?_
            refine lv_iadd hx hb dL_law_144 ?_
            refine lv_topi (nm_r (show (nI (4 * k)) + (nI 2) = nI (4 * k + 2) from nI_add _ _) ?_)
            refine va_sld (A := fun q : Nat => s.heap.size ≤ q) hx hb hX hbl (Nat.not_le.mpr hbl) (law_S hsz hold hLB) (nI_in (c := 4 * k + 2) (by omega) (by omega)) dL_law_145 ?_
            rw [nI_clamp (show 4 * k + 2 < 2 ^ 31 by omega)]
            refine lv_aload_n hx hb dL_law_146 rfl (lv_at hl 1 rfl) ?_
            refine lv_iload_n hx hb dL_law_147 rfl (lv_at hl 0 rfl) ?_
            refine lv_iconst (v := nI 3) hx hb dL_law_148 (by decide +kernel) ?_
            refine lv_iadd hx hb dL_law_149 ?_
            refine lv_topi (nm_r (show (nI (4 * k)) + (nI 3) = nI (4 * k + 3) from nI_add _ _) ?_)
            refine va_sld (A := fun q : Nat => s.heap.size ≤ q) hx hb hX hbl (Nat.not_le.mpr hbl) (law_S hsz hold hLB) (nI_in (c := 4 * k + 3) (by omega) (by omega)) dL_law_150 ?_
            rw [nI_clamp (show 4 * k + 3 < 2 ^ 31 by omega)]
            refine lv_if_eq (tgt := 158) hx hb dL_law_151 (by decide) (fun q => absurd q hz3) (fun _ => ?_)
            refine lv_iconst (v := b2i true) hx hb dL_law_154 (by decide +kernel) ?_
            refine lv_goto (tgt := 159) hx hb dL_law_155 (by decide) ?_
            refine k_callI (va_runV (As := [.int (xs (4 * k + 1)), .int (xs (4 * k + 2)), .int (b2i true)]) (rest := []) ⟨hx, hb, hml, hown, hts⟩ (c_X3_put l D g s.heap.size H A σ dw hC hsz (xs (4 * k + 1)) (xs (4 * k + 2)) (true)) (cwV 3 hts gL_law_X3_put rfl rfl rfl (by decide +kernel) ⟨Nat.le_of_ble_eq_true rfl, Nat.le_of_ble_eq_true rfl⟩) ⟨kPc_blind, k_recv hK hC.o rfl, fun U hU hW => kPc_at hK hU hW⟩ rfl rfl hl.1 rfl (lv_room (Nat.le_of_ble_eq_true rfl)) dL_law_159 ⟨(by show 25 + 5 * k + 4 ≤ 600000; omega), (by show 1645454 + 471 * k + 470 ≤ 7302250; omega)⟩) hLB (fun r0 H1 locs1 hLB1 hq1 => ?_)
            refine W.widen (k := 25 + 5 * (k + 1)) (n := 1645454 + 471 * (k + 1)) (by omega) (by omega) ?_
            obtain ⟨A1, σ1, dw1, hC1, hF1, hS1⟩ := hq1
            obtain ⟨hM1, hdis1, hold1, hsz1⟩ := hLI.cls hC1 hF1
            refine lv_pop hx hb dL_law_162 rfl ?_
            refine lv_aload_n hx hb dL_law_163 rfl (lv_at hl 3 rfl) ?_
            refine lv_aload_n hx hb dL_law_164 rfl (lv_at hl 1 rfl) ?_
            refine lv_iload_n hx hb dL_law_165 rfl (lv_at hl 0 rfl) ?_
            refine lv_iconst (v := nI 1) hx hb dL_law_166 (by decide +kernel) ?_
            refine lv_iadd hx hb dL_law_167 ?_
            refine lv_topi (nm_r (show (nI (4 * k)) + (nI 1) = nI (4 * k + 1) from nI_add _ _) ?_)
            refine va_sld (A := fun q : Nat => s.heap.size ≤ q) hx hb hX hbl (Nat.not_le.mpr hbl) (law_S hsz1 hold1 hLB1) (nI_in (c := 4 * k + 1) (by omega) (by omega)) dL_law_168 ?_
            rw [nI_clamp (show 4 * k + 1 < 2 ^ 31 by omega)]
            refine lv_aload_n hx hb dL_law_169 rfl (lv_at hl 1 rfl) ?_
            refine lv_iload_n hx hb dL_law_170 rfl (lv_at hl 0 rfl) ?_
            refine lv_iconst (v := nI 2) hx hb dL_law_171 (by decide +kernel) ?_
            refine lv_iadd hx hb dL_law_172 ?_
            refine lv_topi (nm_r (show (nI (4 * k)) + (nI 2) = nI (4 * k + 2) from nI_add _ _) ?_)
            refine va_sld (A := fun q : Nat => s.heap.size ≤ q) hx hb hX hbl (Nat.not_le.mpr hbl) (law_S hsz1 hold1 hLB1) (nI_in (c := 4 * k + 2) (by omega) (by omega)) dL_law_173 ?_
            rw [nI_clamp (show 4 * k + 2 < 2 ^ 31 by omega)]
            refine lv_aload_n hx hb dL_law_174 rfl (lv_at hl 1 rfl) ?_
            refine lv_iload_n hx hb dL_law_175 rfl (lv_at hl 0 rfl) ?_
            refine lv_iconst (v := nI 3) hx hb dL_law_176 (by decide +kernel) ?_
            refine lv_iadd hx hb dL_law_177 ?_
            refine lv_topi (nm_r (show (nI (4 * k)) + (nI 3) = nI (4 * k + 3) from nI_add _ _) ?_)
            refine va_sld (A := fun q : Nat => s.heap.size ≤ q) hx hb hX hbl (Nat.not_le.mpr hbl) (law_S hsz1 hold1 hLB1) (nI_in (c := 4 * k + 3) (by omega) (by omega)) dL_law_178 ?_
            rw [nI_clamp (show 4 * k + 3 < 2 ^ 31 by omega)]
            refine lv_if_eq (tgt := 186) hx hb dL_law_179 (by decide) (fun q => absurd q hz3) (fun _ => ?_)
            refine lv_iconst (v := b2i true) hx hb dL_law_182 (by decide +kernel) ?_
            refine lv_goto (tgt := 187) hx hb dL_law_183 (by decide) ?_
            refine k_callI (va_runV (As := [.int (xs (4 * k + 1)), .int (xs (4 * k + 2)), .int (b2i true)]) (rest := []) ⟨hx, hb, hml, hown, hts⟩ (c_X4_put l D g s.heap.size H1 μ σ nC x hM1 hR hMK (xs (4 * k + 1)) (xs (4 * k + 2)) (true)) (cwV 3 hts gL_law_X4_put rfl rfl rfl (by decide +kernel) ⟨Nat.le_of_ble_eq_true rfl, Nat.le_of_ble_eq_true rfl⟩) ⟨kPc_blind, k_recv hK hM1.o rfl, fun U hU hW => kPc_at hK hU hW⟩ rfl rfl hl.1 rfl (lv_room (Nat.le_of_ble_eq_true rfl)) dL_law_187 ⟨(by show 25 + 5 * (k + 1) + 0 ≤ 600000; omega), (by show 1645454 + 471 * (k + 1) + 0 ≤ 7302250; omega)⟩) hLB1 (fun r2 H2 locs2 hLB2 hq2 => ?_)
            refine W.widen (k := 25 + 5 * (k + 1)) (n := 1645454 + 471 * (k + 1)) (by omega) (by omega) ?_
            obtain ⟨hrr, hP2⟩ := hq2 r0 σ1 hS1
            obtain ⟨nC2, x2, hLI2, hsz2⟩ := LI.ref hC1 hdis1 hold1 hP2
            refine lv_pop hx hb dL_law_190 rfl ?_
            refine lv_goto (tgt := 606) hx hb dL_law_191 (by decide) ?_
            refine lv_iinc (v := nI (4 * k + 4)) (lv' := [(3, .int (nI (4 * k + 4))), (0, .ref b), (1, .ref (A 0)), (2, .ref (μ 0))]) hx hb dL_law_606 hl (k := 0) rfl (nI_add (4 * k) 4) (by decide) rfl (fun ls hl => ?_)
            refine lv_goto (tgt := 18) hx hb dL_law_609 (by decide) ?_
            refine ih (k + 1) A1 σ1 nC2 x2 dw1 H2 locs2 (by omega) (by omega) hLI2 hsz2 hLB2 ls ?_
            rw [hF1.2.2, show 4 * (k + 1) = 4 * k + 4 by omega]
            exact (lv_sub hl [0, 1, 2, 3] rfl)
        · skip
          refine lv_tableIn (off := 162) (tgt := 194) hx hb dL_law_32 (by decide +kernel) (by decide +kernel) (by decide +kernel) (by decide) ?_
          refine lv_aload_n hx hb dL_law_194 rfl (lv_at hl 2 rfl) ?_
          refine lv_aload_n hx hb dL_law_195 rfl (lv_at hl 1 rfl) ?_
          refine lv_iload_n hx hb dL_law_196 rfl (lv_at hl 0 rfl) ?_
          refine lv_iconst (v := nI 1) hx hb dL_law_197 (by decide +kernel) ?_
          refine lv_iadd hx hb dL_law_198 ?_
          refine lv_topi (nm_r (show (nI (4 * k)) + (nI 1) = nI (4 * k + 1) from nI_add _ _) ?_)
          refine va_sld (A := fun q : Nat => s.heap.size ≤ q) hx hb hX hbl (Nat.not_le.mpr hbl) (law_S hsz hold hLB) (nI_in (c := 4 * k + 1) (by omega) (by omega)) dL_law_199 ?_
          rw [nI_clamp (show 4 * k + 1 < 2 ^ 31 by omega)]
          refine lv_aload_n hx hb dL_law_200 rfl (lv_at hl 1 rfl) ?_
          refine lv_iload_n hx hb dL_law_201 rfl (lv_at hl 0 rfl) ?_
          refine lv_iconst (v := nI 2) hx hb dL_law_202 (by decide +kernel) ?_
          refine lv_iadd hx hb dL_law_203 ?_
          refine lv_topi (nm_r (show (nI (4 * k)) + (nI 2) = nI (4 * k + 2) from nI_add _ _) ?_)
          refine va_sld (A := fun q : Nat => s.heap.size ≤ q) hx hb hX hbl (Nat.not_le.mpr hbl) (law_S hsz hold hLB) (nI_in (c := 4 * k + 2) (by omega) (by omega)) dL_law_204 ?_
          rw [nI_clamp (show 4 * k + 2 < 2 ^ 31 by omega)]
          refine lv_aload_n hx hb dL_law_205 rfl (lv_at hl 1 rfl) ?_
          refine lv_iload_n hx hb dL_law_206 rfl (lv_at hl 0 rfl) ?_
          refine lv_iconst (v := nI 3) hx hb dL_law_207 (by decide +kernel) ?_
          refine lv_iadd hx hb dL_law_208 ?_
          refine lv_topi (nm_r (show (nI (4 * k)) + (nI 3) = nI (4 * k + 3) from nI_add _ _) ?_)
          refine va_sld (A := fun q : Nat => s.heap.size ≤ q) hx hb hX hbl (Nat.not_le.mpr hbl) (law_S hsz hold hLB) (nI_in (c := 4 * k + 3) (by omega) (by omega)) dL_law_209 ?_
          rw [nI_clamp (show 4 * k + 3 < 2 ^ 31 by omega)]
          refine k_callI (va_runV (As := [.int (xs (4 * k + 1)), .int (xs (4 * k + 2)), .int (xs (4 * k + 3))]) (rest := []) ⟨hx, hb, hml, hown, hts⟩ (c_X3_blank l D g s.heap.size H A σ dw hC hsz (xs (4 * k + 1)) (xs (4 * k + 2)) (xs (4 * k + 3))) (cwV 3 hts gL_law_X3_blank rfl rfl rfl (by decide +kernel) ⟨Nat.le_of_ble_eq_true rfl, Nat.le_of_ble_eq_true rfl⟩) ⟨kPc_blind, k_recv hK hC.o rfl, fun U hU hW => kPc_at hK hU hW⟩ rfl rfl hl.1 rfl (lv_room (Nat.le_of_ble_eq_true rfl)) dL_law_210 ⟨(by show 25 + 5 * k + 4 ≤ 600000; omega), (by show 1645454 + 471 * k + 470 ≤ 7302250; omega)⟩) hLB (fun r0 H1 locs1 hLB1 hq1 => ?_)
          refine W.widen (k := 25 + 5 * (k + 1)) (n := 1645454 + 471 * (k + 1)) (by omega) (by omega) ?_
          obtain ⟨A1, σ1, dw1, hC1, hF1, hS1⟩ := hq1
          obtain ⟨hM1, hdis1, hold1, hsz1⟩ := hLI.cls hC1 hF1
          refine lv_pop hx hb dL_law_213 rfl ?_
          refine lv_aload_n hx hb dL_law_214 rfl (lv_at hl 3 rfl) ?_
          refine lv_aload_n hx hb dL_law_215 rfl (lv_at hl 1 rfl) ?_
          refine lv_iload_n hx hb dL_law_216 rfl (lv_at hl 0 rfl) ?_
          refine lv_iconst (v := nI 1) hx hb dL_law_217 (by decide +kernel) ?_
          refine lv_iadd hx hb dL_law_218 ?_
          refine lv_topi (nm_r (show (nI (4 * k)) + (nI 1) = nI (4 * k + 1) from nI_add _ _) ?_)
          refine va_sld (A := fun q : Nat => s.heap.size ≤ q) hx hb hX hbl (Nat.not_le.mpr hbl) (law_S hsz1 hold1 hLB1) (nI_in (c := 4 * k + 1) (by omega) (by omega)) dL_law_219 ?_
          rw [nI_clamp (show 4 * k + 1 < 2 ^ 31 by omega)]
          refine lv_aload_n hx hb dL_law_220 rfl (lv_at hl 1 rfl) ?_
          refine lv_iload_n hx hb dL_law_221 rfl (lv_at hl 0 rfl) ?_
          refine lv_iconst (v := nI 2) hx hb dL_law_222 (by decide +kernel) ?_
          refine lv_iadd hx hb dL_law_223 ?_
          refine lv_topi (nm_r (show (nI (4 * k)) + (nI 2) = nI (4 * k + 2) from nI_add _ _) ?_)
          refine va_sld (A := fun q : Nat => s.heap.size ≤ q) hx hb hX hbl (Nat.not_le.mpr hbl) (law_S hsz1 hold1 hLB1) (nI_in (c := 4 * k + 2) (by omega) (by omega)) dL_law_224 ?_
          rw [nI_clamp (show 4 * k + 2 < 2 ^ 31 by omega)]
          refine lv_aload_n hx hb dL_law_225 rfl (lv_at hl 1 rfl) ?_
          refine lv_iload_n hx hb dL_law_226 rfl (lv_at hl 0 rfl) ?_
          refine lv_iconst (v := nI 3) hx hb dL_law_227 (by decide +kernel) ?_
          refine lv_iadd hx hb dL_law_228 ?_
          refine lv_topi (nm_r (show (nI (4 * k)) + (nI 3) = nI (4 * k + 3) from nI_add _ _) ?_)
          refine va_sld (A := fun q : Nat => s.heap.size ≤ q) hx hb hX hbl (Nat.not_le.mpr hbl) (law_S hsz1 hold1 hLB1) (nI_in (c := 4 * k + 3) (by omega) (by omega)) dL_law_229 ?_
          rw [nI_clamp (show 4 * k + 3 < 2 ^ 31 by omega)]
          refine k_callI (va_runV (As := [.int (xs (4 * k + 1)), .int (xs (4 * k + 2)), .int (xs (4 * k + 3))]) (rest := []) ⟨hx, hb, hml, hown, hts⟩ (c_X4_blank l D g s.heap.size H1 μ σ nC x hM1 hR hMK (xs (4 * k + 1)) (xs (4 * k + 2)) (xs (4 * k + 3))) (cwV 3 hts gL_law_X4_blank rfl rfl rfl (by decide +kernel) ⟨Nat.le_of_ble_eq_true rfl, Nat.le_of_ble_eq_true rfl⟩) ⟨kPc_blind, k_recv hK hM1.o rfl, fun U hU hW => kPc_at hK hU hW⟩ rfl rfl hl.1 rfl (lv_room (Nat.le_of_ble_eq_true rfl)) dL_law_230 ⟨(by show 25 + 5 * (k + 1) + 0 ≤ 600000; omega), (by show 1645454 + 471 * (k + 1) + 0 ≤ 7302250; omega)⟩) hLB1 (fun r2 H2 locs2 hLB2 hq2 => ?_)
          refine W.widen (k := 25 + 5 * (k + 1)) (n := 1645454 + 471 * (k + 1)) (by omega) (by omega) ?_
          obtain ⟨hrr, hP2⟩ := hq2 r0 σ1 hS1
          obtain ⟨nC2, x2, hLI2, hsz2⟩ := LI.ref hC1 hdis1 hold1 hP2
          refine lv_pop hx hb dL_law_233 rfl ?_
          refine lv_goto (tgt := 606) hx hb dL_law_234 (by decide) ?_
          refine lv_iinc (v := nI (4 * k + 4)) (lv' := [(3, .int (nI (4 * k + 4))), (0, .ref b), (1, .ref (A 0)), (2, .ref (μ 0))]) hx hb dL_law_606 hl (k := 0) rfl (nI_add (4 * k) 4) (by decide) rfl (fun ls hl => ?_)
          refine lv_goto (tgt := 18) hx hb dL_law_609 (by decide) ?_
          refine ih (k + 1) A1 σ1 nC2 x2 dw1 H2 locs2 (by omega) (by omega) hLI2 hsz2 hLB2 ls ?_
          rw [hF1.2.2, show 4 * (k + 1) = 4 * k + 4 by omega]
          exact (lv_sub hl [0, 1, 2, 3] rfl)
        · skip
          refine lv_tableIn (off := 205) (tgt := 237) hx hb dL_law_32 (by decide +kernel) (by decide +kernel) (by decide +kernel) (by decide) ?_
          refine lv_aload_n hx hb dL_law_237 rfl (lv_at hl 2 rfl) ?_
          refine lv_aload_n hx hb dL_law_238 rfl (lv_at hl 1 rfl) ?_
          refine lv_iload_n hx hb dL_law_239 rfl (lv_at hl 0 rfl) ?_
          refine lv_iconst (v := nI 1) hx hb dL_law_240 (by decide +kernel) ?_
          refine lv_iadd hx hb dL_law_241 ?_
          refine lv_topi (nm_r (show (nI (4 * k)) + (nI 1) = nI (4 * k + 1) from nI_add _ _) ?_)
          refine va_sld (A := fun q : Nat => s.heap.size ≤ q) hx hb hX hbl (Nat.not_le.mpr hbl) (law_S hsz hold hLB) (nI_in (c := 4 * k + 1) (by omega) (by omega)) dL_law_242 ?_
          rw [nI_clamp (show 4 * k + 1 < 2 ^ 31 by omega)]
          refine k_callI (va_runV (As := [.int (xs (4 * k + 1))]) (rest := []) ⟨hx, hb, hml, hown, hts⟩ (c_X3_head l D g s.heap.size H A σ dw hC (xs (4 * k + 1))) (cwV 1 hts gL_law_X3_head rfl rfl rfl (by decide +kernel) ⟨Nat.le_of_ble_eq_true rfl, Nat.le_of_ble_eq_true rfl⟩) ⟨kPc_blind, k_recv hK hC.o rfl, fun U hU hW => kPc_at hK hU hW⟩ rfl rfl hl.1 rfl (lv_room (Nat.le_of_ble_eq_true rfl)) dL_law_243 ⟨(by show 25 + 5 * k + 0 ≤ 600000; omega), (by show 1645454 + 471 * k + 0 ≤ 7302250; omega)⟩) hLB (fun r0 H1 locs1 hLB1 hq1 => ?_)
          refine W.widen (k := 25 + 5 * (k + 1)) (n := 1645454 + 471 * (k + 1)) (by omega) (by omega) ?_
          obtain ⟨A1, σ1, dw1, hC1, hF1, hS1⟩ := hq1
          obtain ⟨hM1, hdis1, hold1, hsz1⟩ := hLI.cls hC1 hF1
          refine lv_pop hx hb dL_law_246 rfl ?_
          refine lv_aload_n hx hb dL_law_247 rfl (lv_at hl 3 rfl) ?_
          refine lv_aload_n hx hb dL_law_248 rfl (lv_at hl 1 rfl) ?_
          refine lv_iload_n hx hb dL_law_249 rfl (lv_at hl 0 rfl) ?_
          refine lv_iconst (v := nI 1) hx hb dL_law_250 (by decide +kernel) ?_
          refine lv_iadd hx hb dL_law_251 ?_
          refine lv_topi (nm_r (show (nI (4 * k)) + (nI 1) = nI (4 * k + 1) from nI_add _ _) ?_)
          refine va_sld (A := fun q : Nat => s.heap.size ≤ q) hx hb hX hbl (Nat.not_le.mpr hbl) (law_S hsz1 hold1 hLB1) (nI_in (c := 4 * k + 1) (by omega) (by omega)) dL_law_252 ?_
          rw [nI_clamp (show 4 * k + 1 < 2 ^ 31 by omega)]
          refine k_callI (va_runV (As := [.int (xs (4 * k + 1))]) (rest := []) ⟨hx, hb, hml, hown, hts⟩ (c_X4_head l D g s.heap.size H1 μ σ nC x hM1 hR hMK (xs (4 * k + 1))) (cwV 1 hts gL_law_X4_head rfl rfl rfl (by decide +kernel) ⟨Nat.le_of_ble_eq_true rfl, Nat.le_of_ble_eq_true rfl⟩) ⟨kPc_blind, k_recv hK hM1.o rfl, fun U hU hW => kPc_at hK hU hW⟩ rfl rfl hl.1 rfl (lv_room (Nat.le_of_ble_eq_true rfl)) dL_law_253 ⟨(by show 25 + 5 * (k + 1) + 0 ≤ 600000; omega), (by show 1645454 + 471 * (k + 1) + 0 ≤ 7302250; omega)⟩) hLB1 (fun r2 H2 locs2 hLB2 hq2 => ?_)
          refine W.widen (k := 25 + 5 * (k + 1)) (n := 1645454 + 471 * (k + 1)) (by omega) (by omega) ?_
          have hs1 : σ1 = σ := hS1.1
          obtain ⟨hrd2, hP2⟩ := hq2
          rw [← hs1] at hP2
          obtain ⟨nC2, x2, hLI2, hsz2⟩ := LI.ref hC1 hdis1 hold1 hP2
          refine lv_pop hx hb dL_law_256 rfl ?_
          refine lv_goto (tgt := 606) hx hb dL_law_257 (by decide) ?_
          refine lv_iinc (v := nI (4 * k + 4)) (lv' := [(3, .int (nI (4 * k + 4))), (0, .ref b), (1, .ref (A 0)), (2, .ref (μ 0))]) hx hb dL_law_606 hl (k := 0) rfl (nI_add (4 * k) 4) (by decide) rfl (fun ls hl => ?_)
          refine lv_goto (tgt := 18) hx hb dL_law_609 (by decide) ?_
          refine ih (k + 1) A1 σ1 nC2 x2 dw1 H2 locs2 (by omega) (by omega) hLI2 hsz2 hLB2 ls ?_
          rw [hF1.2.2, show 4 * (k + 1) = 4 * k + 4 by omega]
          exact (lv_sub hl [0, 1, 2, 3] rfl)
        · skip
          refine lv_tableIn (off := 228) (tgt := 260) hx hb dL_law_32 (by decide +kernel) (by decide +kernel) (by decide +kernel) (by decide) ?_
          refine lv_aload_n hx hb dL_law_260 rfl (lv_at hl 2 rfl) ?_
          refine lv_aload_n hx hb dL_law_261 rfl (lv_at hl 1 rfl) ?_
          refine lv_iload_n hx hb dL_law_262 rfl (lv_at hl 0 rfl) ?_
          refine lv_iconst (v := nI 1) hx hb dL_law_263 (by decide +kernel) ?_
          refine lv_iadd hx hb dL_law_264 ?_
          refine lv_topi (nm_r (show (nI (4 * k)) + (nI 1) = nI (4 * k + 1) from nI_add _ _) ?_)
          refine va_sld (A := fun q : Nat => s.heap.size ≤ q) hx hb hX hbl (Nat.not_le.mpr hbl) (law_S hsz hold hLB) (nI_in (c := 4 * k + 1) (by omega) (by omega)) dL_law_265 ?_
          rw [nI_clamp (show 4 * k + 1 < 2 ^ 31 by omega)]
          refine lv_aload_n hx hb dL_law_266 rfl (lv_at hl 1 rfl) ?_
          refine lv_iload_n hx hb dL_law_267 rfl (lv_at hl 0 rfl) ?_
          refine lv_iconst (v := nI 2) hx hb dL_law_268 (by decide +kernel) ?_
          refine lv_iadd hx hb dL_law_269 ?_
          refine lv_topi (nm_r (show (nI (4 * k)) + (nI 2) = nI (4 * k + 2) from nI_add _ _) ?_)
          refine va_sld (A := fun q : Nat => s.heap.size ≤ q) hx hb hX hbl (Nat.not_le.mpr hbl) (law_S hsz hold hLB) (nI_in (c := 4 * k + 2) (by omega) (by omega)) dL_law_270 ?_
          rw [nI_clamp (show 4 * k + 2 < 2 ^ 31 by omega)]
          refine k_callI (va_runV (As := [.int (xs (4 * k + 1)), .int (xs (4 * k + 2))]) (rest := []) ⟨hx, hb, hml, hown, hts⟩ (c_X3_base l D g s.heap.size H A σ dw hC (xs (4 * k + 1)) (xs (4 * k + 2))) (cwV 2 hts gL_law_X3_base rfl rfl rfl (by decide +kernel) ⟨Nat.le_of_ble_eq_true rfl, Nat.le_of_ble_eq_true rfl⟩) ⟨kPc_blind, k_recv hK hC.o rfl, fun U hU hW => kPc_at hK hU hW⟩ rfl rfl hl.1 rfl (lv_room (Nat.le_of_ble_eq_true rfl)) dL_law_271 ⟨(by show 25 + 5 * k + 0 ≤ 600000; omega), (by show 1645454 + 471 * k + 0 ≤ 7302250; omega)⟩) hLB (fun r0 H1 locs1 hLB1 hq1 => ?_)
          refine W.widen (k := 25 + 5 * (k + 1)) (n := 1645454 + 471 * (k + 1)) (by omega) (by omega) ?_
          obtain ⟨A1, σ1, dw1, hC1, hF1, hS1⟩ := hq1
          obtain ⟨hM1, hdis1, hold1, hsz1⟩ := hLI.cls hC1 hF1
          refine lv_pop hx hb dL_law_274 rfl ?_
          refine lv_aload_n hx hb dL_law_275 rfl (lv_at hl 3 rfl) ?_
          refine lv_aload_n hx hb dL_law_276 rfl (lv_at hl 1 rfl) ?_
          refine lv_iload_n hx hb dL_law_277 rfl (lv_at hl 0 rfl) ?_
          refine lv_iconst (v := nI 1) hx hb dL_law_278 (by decide +kernel) ?_
          refine lv_iadd hx hb dL_law_279 ?_
          refine lv_topi (nm_r (show (nI (4 * k)) + (nI 1) = nI (4 * k + 1) from nI_add _ _) ?_)
          refine va_sld (A := fun q : Nat => s.heap.size ≤ q) hx hb hX hbl (Nat.not_le.mpr hbl) (law_S hsz1 hold1 hLB1) (nI_in (c := 4 * k + 1) (by omega) (by omega)) dL_law_280 ?_
          rw [nI_clamp (show 4 * k + 1 < 2 ^ 31 by omega)]
          refine lv_aload_n hx hb dL_law_281 rfl (lv_at hl 1 rfl) ?_
          refine lv_iload_n hx hb dL_law_282 rfl (lv_at hl 0 rfl) ?_
          refine lv_iconst (v := nI 2) hx hb dL_law_283 (by decide +kernel) ?_
          refine lv_iadd hx hb dL_law_284 ?_
          refine lv_topi (nm_r (show (nI (4 * k)) + (nI 2) = nI (4 * k + 2) from nI_add _ _) ?_)
          refine va_sld (A := fun q : Nat => s.heap.size ≤ q) hx hb hX hbl (Nat.not_le.mpr hbl) (law_S hsz1 hold1 hLB1) (nI_in (c := 4 * k + 2) (by omega) (by omega)) dL_law_285 ?_
          rw [nI_clamp (show 4 * k + 2 < 2 ^ 31 by omega)]
          refine k_callI (va_runV (As := [.int (xs (4 * k + 1)), .int (xs (4 * k + 2))]) (rest := []) ⟨hx, hb, hml, hown, hts⟩ (c_X4_base l D g s.heap.size H1 μ σ nC x hM1 hR hMK (xs (4 * k + 1)) (xs (4 * k + 2))) (cwV 2 hts gL_law_X4_base rfl rfl rfl (by decide +kernel) ⟨Nat.le_of_ble_eq_true rfl, Nat.le_of_ble_eq_true rfl⟩) ⟨kPc_blind, k_recv hK hM1.o rfl, fun U hU hW => kPc_at hK hU hW⟩ rfl rfl hl.1 rfl (lv_room (Nat.le_of_ble_eq_true rfl)) dL_law_286 ⟨(by show 25 + 5 * (k + 1) + 0 ≤ 600000; omega), (by show 1645454 + 471 * (k + 1) + 0 ≤ 7302250; omega)⟩) hLB1 (fun r2 H2 locs2 hLB2 hq2 => ?_)
          refine W.widen (k := 25 + 5 * (k + 1)) (n := 1645454 + 471 * (k + 1)) (by omega) (by omega) ?_
          have hs1 : σ1 = σ := hS1.1
          obtain ⟨hrd2, hP2⟩ := hq2
          rw [← hs1] at hP2
          obtain ⟨nC2, x2, hLI2, hsz2⟩ := LI.ref hC1 hdis1 hold1 hP2
          refine lv_pop hx hb dL_law_289 rfl ?_
          refine lv_goto (tgt := 606) hx hb dL_law_290 (by decide) ?_
          refine lv_iinc (v := nI (4 * k + 4)) (lv' := [(3, .int (nI (4 * k + 4))), (0, .ref b), (1, .ref (A 0)), (2, .ref (μ 0))]) hx hb dL_law_606 hl (k := 0) rfl (nI_add (4 * k) 4) (by decide) rfl (fun ls hl => ?_)
          refine lv_goto (tgt := 18) hx hb dL_law_609 (by decide) ?_
          refine ih (k + 1) A1 σ1 nC2 x2 dw1 H2 locs2 (by omega) (by omega) hLI2 hsz2 hLB2 ls ?_
          rw [hF1.2.2, show 4 * (k + 1) = 4 * k + 4 by omega]
          exact (lv_sub hl [0, 1, 2, 3] rfl)
        · skip
          refine lv_tableIn (off := 261) (tgt := 293) hx hb dL_law_32 (by decide +kernel) (by decide +kernel) (by decide +kernel) (by decide) ?_
          refine lv_aload_n hx hb dL_law_293 rfl (lv_at hl 2 rfl) ?_
          refine lv_aload_n hx hb dL_law_294 rfl (lv_at hl 1 rfl) ?_
          refine lv_iload_n hx hb dL_law_295 rfl (lv_at hl 0 rfl) ?_
          refine lv_iconst (v := nI 1) hx hb dL_law_296 (by decide +kernel) ?_
          refine lv_iadd hx hb dL_law_297 ?_
          refine lv_topi (nm_r (show (nI (4 * k)) + (nI 1) = nI (4 * k + 1) from nI_add _ _) ?_)
          refine va_sld (A := fun q : Nat => s.heap.size ≤ q) hx hb hX hbl (Nat.not_le.mpr hbl) (law_S hsz hold hLB) (nI_in (c := 4 * k + 1) (by omega) (by omega)) dL_law_298 ?_
          rw [nI_clamp (show 4 * k + 1 < 2 ^ 31 by omega)]
          refine lv_aload_n hx hb dL_law_299 rfl (lv_at hl 1 rfl) ?_
          refine lv_iload_n hx hb dL_law_300 rfl (lv_at hl 0 rfl) ?_
          refine lv_iconst (v := nI 2) hx hb dL_law_301 (by decide +kernel) ?_
          refine lv_iadd hx hb dL_law_302 ?_
          refine lv_topi (nm_r (show (nI (4 * k)) + (nI 2) = nI (4 * k + 2) from nI_add _ _) ?_)
          refine va_sld (A := fun q : Nat => s.heap.size ≤ q) hx hb hX hbl (Nat.not_le.mpr hbl) (law_S hsz hold hLB) (nI_in (c := 4 * k + 2) (by omega) (by omega)) dL_law_303 ?_
          rw [nI_clamp (show 4 * k + 2 < 2 ^ 31 by omega)]
          refine k_callI (va_runV (As := [.int (xs (4 * k + 1)), .int (xs (4 * k + 2))]) (rest := []) ⟨hx, hb, hml, hown, hts⟩ (c_X3_merge l D g s.heap.size H A σ dw hC hsz (xs (4 * k + 1)) (xs (4 * k + 2))) (cwV 2 hts gL_law_X3_merge rfl rfl rfl (by decide +kernel) ⟨Nat.le_of_ble_eq_true rfl, Nat.le_of_ble_eq_true rfl⟩) ⟨kPc_blind, k_recv hK hC.o rfl, fun U hU hW => kPc_at hK hU hW⟩ rfl rfl hl.1 rfl (lv_room (Nat.le_of_ble_eq_true rfl)) dL_law_304 ⟨(by show 25 + 5 * k + 4 ≤ 600000; omega), (by show 1645454 + 471 * k + 470 ≤ 7302250; omega)⟩) hLB (fun r0 H1 locs1 hLB1 hq1 => ?_)
          refine W.widen (k := 25 + 5 * (k + 1)) (n := 1645454 + 471 * (k + 1)) (by omega) (by omega) ?_
          obtain ⟨A1, σ1, dw1, hC1, hF1, hS1⟩ := hq1
          obtain ⟨hM1, hdis1, hold1, hsz1⟩ := hLI.cls hC1 hF1
          refine lv_pop hx hb dL_law_307 rfl ?_
          refine lv_aload_n hx hb dL_law_308 rfl (lv_at hl 3 rfl) ?_
          refine lv_aload_n hx hb dL_law_309 rfl (lv_at hl 1 rfl) ?_
          refine lv_iload_n hx hb dL_law_310 rfl (lv_at hl 0 rfl) ?_
          refine lv_iconst (v := nI 1) hx hb dL_law_311 (by decide +kernel) ?_
          refine lv_iadd hx hb dL_law_312 ?_
          refine lv_topi (nm_r (show (nI (4 * k)) + (nI 1) = nI (4 * k + 1) from nI_add _ _) ?_)
          refine va_sld (A := fun q : Nat => s.heap.size ≤ q) hx hb hX hbl (Nat.not_le.mpr hbl) (law_S hsz1 hold1 hLB1) (nI_in (c := 4 * k + 1) (by omega) (by omega)) dL_law_313 ?_
          rw [nI_clamp (show 4 * k + 1 < 2 ^ 31 by omega)]
          refine lv_aload_n hx hb dL_law_314 rfl (lv_at hl 1 rfl) ?_
          refine lv_iload_n hx hb dL_law_315 rfl (lv_at hl 0 rfl) ?_
          refine lv_iconst (v := nI 2) hx hb dL_law_316 (by decide +kernel) ?_
          refine lv_iadd hx hb dL_law_317 ?_
          refine lv_topi (nm_r (show (nI (4 * k)) + (nI 2) = nI (4 * k + 2) from nI_add _ _) ?_)
          refine va_sld (A := fun q : Nat => s.heap.size ≤ q) hx hb hX hbl (Nat.not_le.mpr hbl) (law_S hsz1 hold1 hLB1) (nI_in (c := 4 * k + 2) (by omega) (by omega)) dL_law_318 ?_
          rw [nI_clamp (show 4 * k + 2 < 2 ^ 31 by omega)]
          refine k_callI (va_runV (As := [.int (xs (4 * k + 1)), .int (xs (4 * k + 2))]) (rest := []) ⟨hx, hb, hml, hown, hts⟩ (c_X4_merge l D g s.heap.size H1 μ σ nC x hM1 hR hMK (xs (4 * k + 1)) (xs (4 * k + 2))) (cwV 2 hts gL_law_X4_merge rfl rfl rfl (by decide +kernel) ⟨Nat.le_of_ble_eq_true rfl, Nat.le_of_ble_eq_true rfl⟩) ⟨kPc_blind, k_recv hK hM1.o rfl, fun U hU hW => kPc_at hK hU hW⟩ rfl rfl hl.1 rfl (lv_room (Nat.le_of_ble_eq_true rfl)) dL_law_319 ⟨(by show 25 + 5 * (k + 1) + 0 ≤ 600000; omega), (by show 1645454 + 471 * (k + 1) + 0 ≤ 7302250; omega)⟩) hLB1 (fun r2 H2 locs2 hLB2 hq2 => ?_)
          refine W.widen (k := 25 + 5 * (k + 1)) (n := 1645454 + 471 * (k + 1)) (by omega) (by omega) ?_
          obtain ⟨hrr, hP2⟩ := hq2 r0 σ1 hS1
          obtain ⟨nC2, x2, hLI2, hsz2⟩ := LI.ref hC1 hdis1 hold1 hP2
          refine lv_pop hx hb dL_law_322 rfl ?_
          refine lv_goto (tgt := 606) hx hb dL_law_323 (by decide) ?_
          refine lv_iinc (v := nI (4 * k + 4)) (lv' := [(3, .int (nI (4 * k + 4))), (0, .ref b), (1, .ref (A 0)), (2, .ref (μ 0))]) hx hb dL_law_606 hl (k := 0) rfl (nI_add (4 * k) 4) (by decide) rfl (fun ls hl => ?_)
          refine lv_goto (tgt := 18) hx hb dL_law_609 (by decide) ?_
          refine ih (k + 1) A1 σ1 nC2 x2 dw1 H2 locs2 (by omega) (by omega) hLI2 hsz2 hLB2 ls ?_
          rw [hF1.2.2, show 4 * (k + 1) = 4 * k + 4 by omega]
          exact (lv_sub hl [0, 1, 2, 3] rfl)
        · skip
          refine lv_tableIn (off := 294) (tgt := 326) hx hb dL_law_32 (by decide +kernel) (by decide +kernel) (by decide +kernel) (by decide) ?_
          refine lv_aload_n hx hb dL_law_326 rfl (lv_at hl 2 rfl) ?_
          refine lv_aload_n hx hb dL_law_327 rfl (lv_at hl 1 rfl) ?_
          refine lv_iload_n hx hb dL_law_328 rfl (lv_at hl 0 rfl) ?_
          refine lv_iconst (v := nI 1) hx hb dL_law_329 (by decide +kernel) ?_
          refine lv_iadd hx hb dL_law_330 ?_
          refine lv_topi (nm_r (show (nI (4 * k)) + (nI 1) = nI (4 * k + 1) from nI_add _ _) ?_)
          refine va_sld (A := fun q : Nat => s.heap.size ≤ q) hx hb hX hbl (Nat.not_le.mpr hbl) (law_S hsz hold hLB) (nI_in (c := 4 * k + 1) (by omega) (by omega)) dL_law_331 ?_
          rw [nI_clamp (show 4 * k + 1 < 2 ^ 31 by omega)]
          refine lv_aload_n hx hb dL_law_332 rfl (lv_at hl 1 rfl) ?_
          refine lv_iload_n hx hb dL_law_333 rfl (lv_at hl 0 rfl) ?_
          refine lv_iconst (v := nI 2) hx hb dL_law_334 (by decide +kernel) ?_
          refine lv_iadd hx hb dL_law_335 ?_
          refine lv_topi (nm_r (show (nI (4 * k)) + (nI 2) = nI (4 * k + 2) from nI_add _ _) ?_)
          refine va_sld (A := fun q : Nat => s.heap.size ≤ q) hx hb hX hbl (Nat.not_le.mpr hbl) (law_S hsz hold hLB) (nI_in (c := 4 * k + 2) (by omega) (by omega)) dL_law_336 ?_
          rw [nI_clamp (show 4 * k + 2 < 2 ^ 31 by omega)]
          refine k_callI (va_runV (As := [.int (xs (4 * k + 1)), .int (xs (4 * k + 2))]) (rest := []) ⟨hx, hb, hml, hown, hts⟩ (c_X3_conflict l D g s.heap.size H A σ dw hC (xs (4 * k + 1)) (xs (4 * k + 2))) (cwV 2 hts gL_law_X3_conflict rfl rfl rfl (by decide +kernel) ⟨Nat.le_of_ble_eq_true rfl, Nat.le_of_ble_eq_true rfl⟩) ⟨kPc_blind, k_recv hK hC.o rfl, fun U hU hW => kPc_at hK hU hW⟩ rfl rfl hl.1 rfl (lv_room (Nat.le_of_ble_eq_true rfl)) dL_law_337 ⟨(by show 25 + 5 * k + 0 ≤ 600000; omega), (by show 1645454 + 471 * k + 0 ≤ 7302250; omega)⟩) hLB (fun r0 H1 locs1 hLB1 hq1 => ?_)
          refine W.widen (k := 25 + 5 * (k + 1)) (n := 1645454 + 471 * (k + 1)) (by omega) (by omega) ?_
          obtain ⟨A1, σ1, dw1, hC1, hF1, hS1⟩ := hq1
          obtain ⟨hM1, hdis1, hold1, hsz1⟩ := hLI.cls hC1 hF1
          refine lv_pop hx hb dL_law_340 rfl ?_
          refine lv_aload_n hx hb dL_law_341 rfl (lv_at hl 3 rfl) ?_
          refine lv_aload_n hx hb dL_law_342 rfl (lv_at hl 1 rfl) ?_
          refine lv_iload_n hx hb dL_law_343 rfl (lv_at hl 0 rfl) ?_
          refine lv_iconst (v := nI 1) hx hb dL_law_344 (by decide +kernel) ?_
          refine lv_iadd hx hb dL_law_345 ?_
          refine lv_topi (nm_r (show (nI (4 * k)) + (nI 1) = nI (4 * k + 1) from nI_add _ _) ?_)
          refine va_sld (A := fun q : Nat => s.heap.size ≤ q) hx hb hX hbl (Nat.not_le.mpr hbl) (law_S hsz1 hold1 hLB1) (nI_in (c := 4 * k + 1) (by omega) (by omega)) dL_law_346 ?_
          rw [nI_clamp (show 4 * k + 1 < 2 ^ 31 by omega)]
          refine lv_aload_n hx hb dL_law_347 rfl (lv_at hl 1 rfl) ?_
          refine lv_iload_n hx hb dL_law_348 rfl (lv_at hl 0 rfl) ?_
          refine lv_iconst (v := nI 2) hx hb dL_law_349 (by decide +kernel) ?_
          refine lv_iadd hx hb dL_law_350 ?_
          refine lv_topi (nm_r (show (nI (4 * k)) + (nI 2) = nI (4 * k + 2) from nI_add _ _) ?_)
          refine va_sld (A := fun q : Nat => s.heap.size ≤ q) hx hb hX hbl (Nat.not_le.mpr hbl) (law_S hsz1 hold1 hLB1) (nI_in (c := 4 * k + 2) (by omega) (by omega)) dL_law_351 ?_
          rw [nI_clamp (show 4 * k + 2 < 2 ^ 31 by omega)]
          refine k_callI (va_runV (As := [.int (xs (4 * k + 1)), .int (xs (4 * k + 2))]) (rest := []) ⟨hx, hb, hml, hown, hts⟩ (c_X4_conflict l D g s.heap.size H1 μ σ nC x hM1 hR hMK (xs (4 * k + 1)) (xs (4 * k + 2))) (cwV 2 hts gL_law_X4_conflict rfl rfl rfl (by decide +kernel) ⟨Nat.le_of_ble_eq_true rfl, Nat.le_of_ble_eq_true rfl⟩) ⟨kPc_blind, k_recv hK hM1.o rfl, fun U hU hW => kPc_at hK hU hW⟩ rfl rfl hl.1 rfl (lv_room (Nat.le_of_ble_eq_true rfl)) dL_law_352 ⟨(by show 25 + 5 * (k + 1) + 0 ≤ 600000; omega), (by show 1645454 + 471 * (k + 1) + 0 ≤ 7302250; omega)⟩) hLB1 (fun r2 H2 locs2 hLB2 hq2 => ?_)
          refine W.widen (k := 25 + 5 * (k + 1)) (n := 1645454 + 471 * (k + 1)) (by omega) (by omega) ?_
          have hs1 : σ1 = σ := hS1.1
          obtain ⟨hrd2, hP2⟩ := hq2
          rw [← hs1] at hP2
          obtain ⟨nC2, x2, hLI2, hsz2⟩ := LI.ref hC1 hdis1 hold1 hP2
          refine lv_pop hx hb dL_law_355 rfl ?_
          refine lv_goto (tgt := 606) hx hb dL_law_356 (by decide) ?_
          refine lv_iinc (v := nI (4 * k + 4)) (lv' := [(3, .int (nI (4 * k + 4))), (0, .ref b), (1, .ref (A 0)), (2, .ref (μ 0))]) hx hb dL_law_606 hl (k := 0) rfl (nI_add (4 * k) 4) (by decide) rfl (fun ls hl => ?_)
          refine lv_goto (tgt := 18) hx hb dL_law_609 (by decide) ?_
          refine ih (k + 1) A1 σ1 nC2 x2 dw1 H2 locs2 (by omega) (by omega) hLI2 hsz2 hLB2 ls ?_
          rw [hF1.2.2, show 4 * (k + 1) = 4 * k + 4 by omega]
          exact (lv_sub hl [0, 1, 2, 3] rfl)
        · skip
          refine lv_tableIn (off := 327) (tgt := 359) hx hb dL_law_32 (by decide +kernel) (by decide +kernel) (by decide +kernel) (by decide) ?_
          refine lv_aload_n hx hb dL_law_359 rfl (lv_at hl 2 rfl) ?_
          refine lv_aload_n hx hb dL_law_360 rfl (lv_at hl 1 rfl) ?_
          refine lv_iload_n hx hb dL_law_361 rfl (lv_at hl 0 rfl) ?_
          refine lv_iconst (v := nI 1) hx hb dL_law_362 (by decide +kernel) ?_
          refine lv_iadd hx hb dL_law_363 ?_
          refine lv_topi (nm_r (show (nI (4 * k)) + (nI 1) = nI (4 * k + 1) from nI_add _ _) ?_)
          refine va_sld (A := fun q : Nat => s.heap.size ≤ q) hx hb hX hbl (Nat.not_le.mpr hbl) (law_S hsz hold hLB) (nI_in (c := 4 * k + 1) (by omega) (by omega)) dL_law_364 ?_
          rw [nI_clamp (show 4 * k + 1 < 2 ^ 31 by omega)]
          refine lv_aload_n hx hb dL_law_365 rfl (lv_at hl 1 rfl) ?_
          refine lv_iload_n hx hb dL_law_366 rfl (lv_at hl 0 rfl) ?_
          refine lv_iconst (v := nI 2) hx hb dL_law_367 (by decide +kernel) ?_
          refine lv_iadd hx hb dL_law_368 ?_
          refine lv_topi (nm_r (show (nI (4 * k)) + (nI 2) = nI (4 * k + 2) from nI_add _ _) ?_)
          refine va_sld (A := fun q : Nat => s.heap.size ≤ q) hx hb hX hbl (Nat.not_le.mpr hbl) (law_S hsz hold hLB) (nI_in (c := 4 * k + 2) (by omega) (by omega)) dL_law_369 ?_
          rw [nI_clamp (show 4 * k + 2 < 2 ^ 31 by omega)]
          refine lv_aload_n hx hb dL_law_370 rfl (lv_at hl 1 rfl) ?_
          refine lv_iload_n hx hb dL_law_371 rfl (lv_at hl 0 rfl) ?_
          refine lv_iconst (v := nI 3) hx hb dL_law_372 (by decide +kernel) ?_
          refine lv_iadd hx hb dL_law_373 ?_
          refine lv_topi (nm_r (show (nI (4 * k)) + (nI 3) = nI (4 * k + 3) from nI_add _ _) ?_)
          refine va_sld (A := fun q : Nat => s.heap.size ≤ q) hx hb hX hbl (Nat.not_le.mpr hbl) (law_S hsz hold hLB) (nI_in (c := 4 * k + 3) (by omega) (by omega)) dL_law_374 ?_
          rw [nI_clamp (show 4 * k + 3 < 2 ^ 31 by omega)]
          refine k_callI (va_runV (As := [.int (xs (4 * k + 1)), .int (xs (4 * k + 2)), .int (xs (4 * k + 3))]) (rest := []) ⟨hx, hb, hml, hown, hts⟩ (c_X3_patch l D g s.heap.size H A σ dw hC (xs (4 * k + 1)) (xs (4 * k + 2)) (xs (4 * k + 3))) (cwV 3 hts gL_law_X3_patch rfl rfl rfl (by decide +kernel) ⟨Nat.le_of_ble_eq_true rfl, Nat.le_of_ble_eq_true rfl⟩) ⟨kPc_blind, k_recv hK hC.o rfl, fun U hU hW => kPc_at hK hU hW⟩ rfl rfl hl.1 rfl (lv_room (Nat.le_of_ble_eq_true rfl)) dL_law_375 ⟨(by show 25 + 5 * k + 0 ≤ 600000; omega), (by show 1645454 + 471 * k + 0 ≤ 7302250; omega)⟩) hLB (fun r0 H1 locs1 hLB1 hq1 => ?_)
          refine W.widen (k := 25 + 5 * (k + 1)) (n := 1645454 + 471 * (k + 1)) (by omega) (by omega) ?_
          obtain ⟨A1, σ1, dw1, hC1, hF1, hS1⟩ := hq1
          obtain ⟨hM1, hdis1, hold1, hsz1⟩ := hLI.cls hC1 hF1
          refine lv_pop hx hb dL_law_378 rfl ?_
          refine lv_aload_n hx hb dL_law_379 rfl (lv_at hl 3 rfl) ?_
          refine lv_aload_n hx hb dL_law_380 rfl (lv_at hl 1 rfl) ?_
          refine lv_iload_n hx hb dL_law_381 rfl (lv_at hl 0 rfl) ?_
          refine lv_iconst (v := nI 1) hx hb dL_law_382 (by decide +kernel) ?_
          refine lv_iadd hx hb dL_law_383 ?_
          refine lv_topi (nm_r (show (nI (4 * k)) + (nI 1) = nI (4 * k + 1) from nI_add _ _) ?_)
          refine va_sld (A := fun q : Nat => s.heap.size ≤ q) hx hb hX hbl (Nat.not_le.mpr hbl) (law_S hsz1 hold1 hLB1) (nI_in (c := 4 * k + 1) (by omega) (by omega)) dL_law_384 ?_
          rw [nI_clamp (show 4 * k + 1 < 2 ^ 31 by omega)]
          refine lv_aload_n hx hb dL_law_385 rfl (lv_at hl 1 rfl) ?_
          refine lv_iload_n hx hb dL_law_386 rfl (lv_at hl 0 rfl) ?_
          refine lv_iconst (v := nI 2) hx hb dL_law_387 (by decide +kernel) ?_
          refine lv_iadd hx hb dL_law_388 ?_
          refine lv_topi (nm_r (show (nI (4 * k)) + (nI 2) = nI (4 * k + 2) from nI_add _ _) ?_)
          refine va_sld (A := fun q : Nat => s.heap.size ≤ q) hx hb hX hbl (Nat.not_le.mpr hbl) (law_S hsz1 hold1 hLB1) (nI_in (c := 4 * k + 2) (by omega) (by omega)) dL_law_389 ?_
          rw [nI_clamp (show 4 * k + 2 < 2 ^ 31 by omega)]
          refine lv_aload_n hx hb dL_law_390 rfl (lv_at hl 1 rfl) ?_
          refine lv_iload_n hx hb dL_law_391 rfl (lv_at hl 0 rfl) ?_
          refine lv_iconst (v := nI 3) hx hb dL_law_392 (by decide +kernel) ?_
          refine lv_iadd hx hb dL_law_393 ?_
          refine lv_topi (nm_r (show (nI (4 * k)) + (nI 3) = nI (4 * k + 3) from nI_add _ _) ?_)
          refine va_sld (A := fun q : Nat => s.heap.size ≤ q) hx hb hX hbl (Nat.not_le.mpr hbl) (law_S hsz1 hold1 hLB1) (nI_in (c := 4 * k + 3) (by omega) (by omega)) dL_law_394 ?_
          rw [nI_clamp (show 4 * k + 3 < 2 ^ 31 by omega)]
          refine k_callI (va_runV (As := [.int (xs (4 * k + 1)), .int (xs (4 * k + 2)), .int (xs (4 * k + 3))]) (rest := []) ⟨hx, hb, hml, hown, hts⟩ (c_X4_patch l D g s.heap.size H1 μ σ nC x hM1 hR hMK (xs (4 * k + 1)) (xs (4 * k + 2)) (xs (4 * k + 3))) (cwV 3 hts gL_law_X4_patch rfl rfl rfl (by decide +kernel) ⟨Nat.le_of_ble_eq_true rfl, Nat.le_of_ble_eq_true rfl⟩) ⟨kPc_blind, k_recv hK hM1.o rfl, fun U hU hW => kPc_at hK hU hW⟩ rfl rfl hl.1 rfl (lv_room (Nat.le_of_ble_eq_true rfl)) dL_law_395 ⟨(by show 25 + 5 * (k + 1) + 0 ≤ 600000; omega), (by show 1645454 + 471 * (k + 1) + 0 ≤ 7302250; omega)⟩) hLB1 (fun r2 H2 locs2 hLB2 hq2 => ?_)
          refine W.widen (k := 25 + 5 * (k + 1)) (n := 1645454 + 471 * (k + 1)) (by omega) (by omega) ?_
          have hs1 : σ1 = σ := hS1
          obtain ⟨hrd2, hP2⟩ := hq2
          rw [← hs1] at hP2
          obtain ⟨nC2, x2, hLI2, hsz2⟩ := LI.ref hC1 hdis1 hold1 hP2
          refine lv_pop hx hb dL_law_398 rfl ?_
          refine lv_goto (tgt := 606) hx hb dL_law_399 (by decide) ?_
          refine lv_iinc (v := nI (4 * k + 4)) (lv' := [(3, .int (nI (4 * k + 4))), (0, .ref b), (1, .ref (A 0)), (2, .ref (μ 0))]) hx hb dL_law_606 hl (k := 0) rfl (nI_add (4 * k) 4) (by decide) rfl (fun ls hl => ?_)
          refine lv_goto (tgt := 18) hx hb dL_law_609 (by decide) ?_
          refine ih (k + 1) A1 σ1 nC2 x2 dw1 H2 locs2 (by omega) (by omega) hLI2 hsz2 hLB2 ls ?_
          rw [hF1.2.2, show 4 * (k + 1) = 4 * k + 4 by omega]
          exact (lv_sub hl [0, 1, 2, 3] rfl)
        · skip
          refine lv_tableIn (off := 370) (tgt := 402) hx hb dL_law_32 (by decide +kernel) (by decide +kernel) (by decide +kernel) (by decide) ?_
          refine lv_aload_n hx hb dL_law_402 rfl (lv_at hl 2 rfl) ?_
          refine lv_aload_n hx hb dL_law_403 rfl (lv_at hl 1 rfl) ?_
          refine lv_iload_n hx hb dL_law_404 rfl (lv_at hl 0 rfl) ?_
          refine lv_iconst (v := nI 1) hx hb dL_law_405 (by decide +kernel) ?_
          refine lv_iadd hx hb dL_law_406 ?_
          refine lv_topi (nm_r (show (nI (4 * k)) + (nI 1) = nI (4 * k + 1) from nI_add _ _) ?_)
          refine va_sld (A := fun q : Nat => s.heap.size ≤ q) hx hb hX hbl (Nat.not_le.mpr hbl) (law_S hsz hold hLB) (nI_in (c := 4 * k + 1) (by omega) (by omega)) dL_law_407 ?_
          rw [nI_clamp (show 4 * k + 1 < 2 ^ 31 by omega)]
          refine k_callI (va_runV (As := [.int (xs (4 * k + 1))]) (rest := []) ⟨hx, hb, hml, hown, hts⟩ (c_X3_inverse l D g s.heap.size H A σ dw hC (xs (4 * k + 1))) (cwV 1 hts gL_law_X3_inverse rfl rfl rfl (by decide +kernel) ⟨Nat.le_of_ble_eq_true rfl, Nat.le_of_ble_eq_true rfl⟩) ⟨kPc_blind, k_recv hK hC.o rfl, fun U hU hW => kPc_at hK hU hW⟩ rfl rfl hl.1 rfl (lv_room (Nat.le_of_ble_eq_true rfl)) dL_law_408 ⟨(by show 25 + 5 * k + 0 ≤ 600000; omega), (by show 1645454 + 471 * k + 0 ≤ 7302250; omega)⟩) hLB (fun r0 H1 locs1 hLB1 hq1 => ?_)
          refine W.widen (k := 25 + 5 * (k + 1)) (n := 1645454 + 471 * (k + 1)) (by omega) (by omega) ?_
          obtain ⟨A1, σ1, dw1, hC1, hF1, hS1⟩ := hq1
          obtain ⟨hM1, hdis1, hold1, hsz1⟩ := hLI.cls hC1 hF1
          refine lv_pop hx hb dL_law_411 rfl ?_
          refine lv_aload_n hx hb dL_law_412 rfl (lv_at hl 3 rfl) ?_
          refine lv_aload_n hx hb dL_law_413 rfl (lv_at hl 1 rfl) ?_
          refine lv_iload_n hx hb dL_law_414 rfl (lv_at hl 0 rfl) ?_
          refine lv_iconst (v := nI 1) hx hb dL_law_415 (by decide +kernel) ?_
          refine lv_iadd hx hb dL_law_416 ?_
          refine lv_topi (nm_r (show (nI (4 * k)) + (nI 1) = nI (4 * k + 1) from nI_add _ _) ?_)
          refine va_sld (A := fun q : Nat => s.heap.size ≤ q) hx hb hX hbl (Nat.not_le.mpr hbl) (law_S hsz1 hold1 hLB1) (nI_in (c := 4 * k + 1) (by omega) (by omega)) dL_law_417 ?_
          rw [nI_clamp (show 4 * k + 1 < 2 ^ 31 by omega)]
          refine k_callI (va_runV (As := [.int (xs (4 * k + 1))]) (rest := []) ⟨hx, hb, hml, hown, hts⟩ (c_X4_inverse l D g s.heap.size H1 μ σ nC x hM1 hR hMK (xs (4 * k + 1))) (cwV 1 hts gL_law_X4_inverse rfl rfl rfl (by decide +kernel) ⟨Nat.le_of_ble_eq_true rfl, Nat.le_of_ble_eq_true rfl⟩) ⟨kPc_blind, k_recv hK hM1.o rfl, fun U hU hW => kPc_at hK hU hW⟩ rfl rfl hl.1 rfl (lv_room (Nat.le_of_ble_eq_true rfl)) dL_law_418 ⟨(by show 25 + 5 * (k + 1) + 0 ≤ 600000; omega), (by show 1645454 + 471 * (k + 1) + 0 ≤ 7302250; omega)⟩) hLB1 (fun r2 H2 locs2 hLB2 hq2 => ?_)
          refine W.widen (k := 25 + 5 * (k + 1)) (n := 1645454 + 471 * (k + 1)) (by omega) (by omega) ?_
          have hs1 : σ1 = σ := hS1.1
          obtain ⟨hrd2, hP2⟩ := hq2
          rw [← hs1] at hP2
          obtain ⟨nC2, x2, hLI2, hsz2⟩ := LI.ref hC1 hdis1 hold1 hP2
          refine lv_pop hx hb dL_law_421 rfl ?_
          refine lv_goto (tgt := 606) hx hb dL_law_422 (by decide) ?_
          refine lv_iinc (v := nI (4 * k + 4)) (lv' := [(3, .int (nI (4 * k + 4))), (0, .ref b), (1, .ref (A 0)), (2, .ref (μ 0))]) hx hb dL_law_606 hl (k := 0) rfl (nI_add (4 * k) 4) (by decide) rfl (fun ls hl => ?_)
          refine lv_goto (tgt := 18) hx hb dL_law_609 (by decide) ?_
          refine ih (k + 1) A1 σ1 nC2 x2 dw1 H2 locs2 (by omega) (by omega) hLI2 hsz2 hLB2 ls ?_
          rw [hF1.2.2, show 4 * (k + 1) = 4 * k + 4 by omega]
          exact (lv_sub hl [0, 1, 2, 3] rfl)
        · skip
          refine lv_tableIn (off := 393) (tgt := 425) hx hb dL_law_32 (by decide +kernel) (by decide +kernel) (by decide +kernel) (by decide) ?_
          refine lv_aload_n hx hb dL_law_425 rfl (lv_at hl 2 rfl) ?_
          refine lv_aload_n hx hb dL_law_426 rfl (lv_at hl 1 rfl) ?_
          refine lv_iload_n hx hb dL_law_427 rfl (lv_at hl 0 rfl) ?_
          refine lv_iconst (v := nI 1) hx hb dL_law_428 (by decide +kernel) ?_
          refine lv_iadd hx hb dL_law_429 ?_
          refine lv_topi (nm_r (show (nI (4 * k)) + (nI 1) = nI (4 * k + 1) from nI_add _ _) ?_)
          refine va_sld (A := fun q : Nat => s.heap.size ≤ q) hx hb hX hbl (Nat.not_le.mpr hbl) (law_S hsz hold hLB) (nI_in (c := 4 * k + 1) (by omega) (by omega)) dL_law_430 ?_
          rw [nI_clamp (show 4 * k + 1 < 2 ^ 31 by omega)]
          refine lv_aload_n hx hb dL_law_431 rfl (lv_at hl 1 rfl) ?_
          refine lv_iload_n hx hb dL_law_432 rfl (lv_at hl 0 rfl) ?_
          refine lv_iconst (v := nI 2) hx hb dL_law_433 (by decide +kernel) ?_
          refine lv_iadd hx hb dL_law_434 ?_
          refine lv_topi (nm_r (show (nI (4 * k)) + (nI 2) = nI (4 * k + 2) from nI_add _ _) ?_)
          refine va_sld (A := fun q : Nat => s.heap.size ≤ q) hx hb hX hbl (Nat.not_le.mpr hbl) (law_S hsz hold hLB) (nI_in (c := 4 * k + 2) (by omega) (by omega)) dL_law_435 ?_
          rw [nI_clamp (show 4 * k + 2 < 2 ^ 31 by omega)]
          refine k_callI (va_runV (As := [.int (xs (4 * k + 1)), .int (xs (4 * k + 2))]) (rest := []) ⟨hx, hb, hml, hown, hts⟩ (c_X3_apply l D g s.heap.size H A σ dw hC hsz (xs (4 * k + 1)) (xs (4 * k + 2))) (cwV 2 hts gL_law_X3_apply rfl rfl rfl (by decide +kernel) ⟨Nat.le_of_ble_eq_true rfl, Nat.le_of_ble_eq_true rfl⟩) ⟨kPc_blind, k_recv hK hC.o rfl, fun U hU hW => kPc_at hK hU hW⟩ rfl rfl hl.1 rfl (lv_room (Nat.le_of_ble_eq_true rfl)) dL_law_436 ⟨(by show 25 + 5 * k + 4 ≤ 600000; omega), (by show 1645454 + 471 * k + 470 ≤ 7302250; omega)⟩) hLB (fun r0 H1 locs1 hLB1 hq1 => ?_)
          refine W.widen (k := 25 + 5 * (k + 1)) (n := 1645454 + 471 * (k + 1)) (by omega) (by omega) ?_
          obtain ⟨A1, σ1, dw1, hC1, hF1, hS1⟩ := hq1
          obtain ⟨hM1, hdis1, hold1, hsz1⟩ := hLI.cls hC1 hF1
          refine lv_pop hx hb dL_law_439 rfl ?_
          refine lv_aload_n hx hb dL_law_440 rfl (lv_at hl 3 rfl) ?_
          refine lv_aload_n hx hb dL_law_441 rfl (lv_at hl 1 rfl) ?_
          refine lv_iload_n hx hb dL_law_442 rfl (lv_at hl 0 rfl) ?_
          refine lv_iconst (v := nI 1) hx hb dL_law_443 (by decide +kernel) ?_
          refine lv_iadd hx hb dL_law_444 ?_
          refine lv_topi (nm_r (show (nI (4 * k)) + (nI 1) = nI (4 * k + 1) from nI_add _ _) ?_)
          refine va_sld (A := fun q : Nat => s.heap.size ≤ q) hx hb hX hbl (Nat.not_le.mpr hbl) (law_S hsz1 hold1 hLB1) (nI_in (c := 4 * k + 1) (by omega) (by omega)) dL_law_445 ?_
          rw [nI_clamp (show 4 * k + 1 < 2 ^ 31 by omega)]
          refine lv_aload_n hx hb dL_law_446 rfl (lv_at hl 1 rfl) ?_
          refine lv_iload_n hx hb dL_law_447 rfl (lv_at hl 0 rfl) ?_
          refine lv_iconst (v := nI 2) hx hb dL_law_448 (by decide +kernel) ?_
          refine lv_iadd hx hb dL_law_449 ?_
          refine lv_topi (nm_r (show (nI (4 * k)) + (nI 2) = nI (4 * k + 2) from nI_add _ _) ?_)
          refine va_sld (A := fun q : Nat => s.heap.size ≤ q) hx hb hX hbl (Nat.not_le.mpr hbl) (law_S hsz1 hold1 hLB1) (nI_in (c := 4 * k + 2) (by omega) (by omega)) dL_law_450 ?_
          rw [nI_clamp (show 4 * k + 2 < 2 ^ 31 by omega)]
          refine k_callI (va_runV (As := [.int (xs (4 * k + 1)), .int (xs (4 * k + 2))]) (rest := []) ⟨hx, hb, hml, hown, hts⟩ (c_X4_apply l D g s.heap.size H1 μ σ nC x hM1 hR hMK (xs (4 * k + 1)) (xs (4 * k + 2))) (cwV 2 hts gL_law_X4_apply rfl rfl rfl (by decide +kernel) ⟨Nat.le_of_ble_eq_true rfl, Nat.le_of_ble_eq_true rfl⟩) ⟨kPc_blind, k_recv hK hM1.o rfl, fun U hU hW => kPc_at hK hU hW⟩ rfl rfl hl.1 rfl (lv_room (Nat.le_of_ble_eq_true rfl)) dL_law_451 ⟨(by show 25 + 5 * (k + 1) + 0 ≤ 600000; omega), (by show 1645454 + 471 * (k + 1) + 0 ≤ 7302250; omega)⟩) hLB1 (fun r2 H2 locs2 hLB2 hq2 => ?_)
          refine W.widen (k := 25 + 5 * (k + 1)) (n := 1645454 + 471 * (k + 1)) (by omega) (by omega) ?_
          obtain ⟨hrr, hP2⟩ := hq2 r0 σ1 hS1
          obtain ⟨nC2, x2, hLI2, hsz2⟩ := LI.ref hC1 hdis1 hold1 hP2
          refine lv_pop hx hb dL_law_454 rfl ?_
          refine lv_goto (tgt := 606) hx hb dL_law_455 (by decide) ?_
          refine lv_iinc (v := nI (4 * k + 4)) (lv' := [(3, .int (nI (4 * k + 4))), (0, .ref b), (1, .ref (A 0)), (2, .ref (μ 0))]) hx hb dL_law_606 hl (k := 0) rfl (nI_add (4 * k) 4) (by decide) rfl (fun ls hl => ?_)
          refine lv_goto (tgt := 18) hx hb dL_law_609 (by decide) ?_
          refine ih (k + 1) A1 σ1 nC2 x2 dw1 H2 locs2 (by omega) (by omega) hLI2 hsz2 hLB2 ls ?_
          rw [hF1.2.2, show 4 * (k + 1) = 4 * k + 4 by omega]
          exact (lv_sub hl [0, 1, 2, 3] rfl)
        · skip
          refine lv_tableIn (off := 426) (tgt := 458) hx hb dL_law_32 (by decide +kernel) (by decide +kernel) (by decide +kernel) (by decide) ?_
          refine lv_aload_n hx hb dL_law_458 rfl (lv_at hl 2 rfl) ?_
          refine lv_aload_n hx hb dL_law_459 rfl (lv_at hl 1 rfl) ?_
          refine lv_iload_n hx hb dL_law_460 rfl (lv_at hl 0 rfl) ?_
          refine lv_iconst (v := nI 1) hx hb dL_law_461 (by decide +kernel) ?_
          refine lv_iadd hx hb dL_law_462 ?_
          refine lv_topi (nm_r (show (nI (4 * k)) + (nI 1) = nI (4 * k + 1) from nI_add _ _) ?_)
          refine va_sld (A := fun q : Nat => s.heap.size ≤ q) hx hb hX hbl (Nat.not_le.mpr hbl) (law_S hsz hold hLB) (nI_in (c := 4 * k + 1) (by omega) (by omega)) dL_law_463 ?_
          rw [nI_clamp (show 4 * k + 1 < 2 ^ 31 by omega)]
          refine lv_aload_n hx hb dL_law_464 rfl (lv_at hl 1 rfl) ?_
          refine lv_iload_n hx hb dL_law_465 rfl (lv_at hl 0 rfl) ?_
          refine lv_iconst (v := nI 2) hx hb dL_law_466 (by decide +kernel) ?_
          refine lv_iadd hx hb dL_law_467 ?_
          refine lv_topi (nm_r (show (nI (4 * k)) + (nI 2) = nI (4 * k + 2) from nI_add _ _) ?_)
          refine va_sld (A := fun q : Nat => s.heap.size ≤ q) hx hb hX hbl (Nat.not_le.mpr hbl) (law_S hsz hold hLB) (nI_in (c := 4 * k + 2) (by omega) (by omega)) dL_law_468 ?_
          rw [nI_clamp (show 4 * k + 2 < 2 ^ 31 by omega)]
          refine k_callI (va_runV (As := [.int (xs (4 * k + 1)), .int (xs (4 * k + 2))]) (rest := []) ⟨hx, hb, hml, hown, hts⟩ (c_X3_revert l D g s.heap.size H A σ dw hC hsz (xs (4 * k + 1)) (xs (4 * k + 2))) (cwV 2 hts gL_law_X3_revert rfl rfl rfl (by decide +kernel) ⟨Nat.le_of_ble_eq_true rfl, Nat.le_of_ble_eq_true rfl⟩) ⟨kPc_blind, k_recv hK hC.o rfl, fun U hU hW => kPc_at hK hU hW⟩ rfl rfl hl.1 rfl (lv_room (Nat.le_of_ble_eq_true rfl)) dL_law_469 ⟨(by show 25 + 5 * k + 4 ≤ 600000; omega), (by show 1645454 + 471 * k + 470 ≤ 7302250; omega)⟩) hLB (fun r0 H1 locs1 hLB1 hq1 => ?_)
          refine W.widen (k := 25 + 5 * (k + 1)) (n := 1645454 + 471 * (k + 1)) (by omega) (by omega) ?_
          obtain ⟨A1, σ1, dw1, hC1, hF1, hS1⟩ := hq1
          obtain ⟨hM1, hdis1, hold1, hsz1⟩ := hLI.cls hC1 hF1
          refine lv_pop hx hb dL_law_472 rfl ?_
          refine lv_aload_n hx hb dL_law_473 rfl (lv_at hl 3 rfl) ?_
          refine lv_aload_n hx hb dL_law_474 rfl (lv_at hl 1 rfl) ?_
          refine lv_iload_n hx hb dL_law_475 rfl (lv_at hl 0 rfl) ?_
          refine lv_iconst (v := nI 1) hx hb dL_law_476 (by decide +kernel) ?_
          refine lv_iadd hx hb dL_law_477 ?_
          refine lv_topi (nm_r (show (nI (4 * k)) + (nI 1) = nI (4 * k + 1) from nI_add _ _) ?_)
          refine va_sld (A := fun q : Nat => s.heap.size ≤ q) hx hb hX hbl (Nat.not_le.mpr hbl) (law_S hsz1 hold1 hLB1) (nI_in (c := 4 * k + 1) (by omega) (by omega)) dL_law_478 ?_
          rw [nI_clamp (show 4 * k + 1 < 2 ^ 31 by omega)]
          refine lv_aload_n hx hb dL_law_479 rfl (lv_at hl 1 rfl) ?_
          refine lv_iload_n hx hb dL_law_480 rfl (lv_at hl 0 rfl) ?_
          refine lv_iconst (v := nI 2) hx hb dL_law_481 (by decide +kernel) ?_
          refine lv_iadd hx hb dL_law_482 ?_
          refine lv_topi (nm_r (show (nI (4 * k)) + (nI 2) = nI (4 * k + 2) from nI_add _ _) ?_)
          refine va_sld (A := fun q : Nat => s.heap.size ≤ q) hx hb hX hbl (Nat.not_le.mpr hbl) (law_S hsz1 hold1 hLB1) (nI_in (c := 4 * k + 2) (by omega) (by omega)) dL_law_483 ?_
          rw [nI_clamp (show 4 * k + 2 < 2 ^ 31 by omega)]
          refine k_callI (va_runV (As := [.int (xs (4 * k + 1)), .int (xs (4 * k + 2))]) (rest := []) ⟨hx, hb, hml, hown, hts⟩ (c_X4_revert l D g s.heap.size H1 μ σ nC x hM1 hR hMK (xs (4 * k + 1)) (xs (4 * k + 2))) (cwV 2 hts gL_law_X4_revert rfl rfl rfl (by decide +kernel) ⟨Nat.le_of_ble_eq_true rfl, Nat.le_of_ble_eq_true rfl⟩) ⟨kPc_blind, k_recv hK hM1.o rfl, fun U hU hW => kPc_at hK hU hW⟩ rfl rfl hl.1 rfl (lv_room (Nat.le_of_ble_eq_true rfl)) dL_law_484 ⟨(by show 25 + 5 * (k + 1) + 0 ≤ 600000; omega), (by show 1645454 + 471 * (k + 1) + 0 ≤ 7302250; omega)⟩) hLB1 (fun r2 H2 locs2 hLB2 hq2 => ?_)
          refine W.widen (k := 25 + 5 * (k + 1)) (n := 1645454 + 471 * (k + 1)) (by omega) (by omega) ?_
          obtain ⟨hrr, hP2⟩ := hq2 r0 σ1 hS1
          obtain ⟨nC2, x2, hLI2, hsz2⟩ := LI.ref hC1 hdis1 hold1 hP2
          refine lv_pop hx hb dL_law_487 rfl ?_
          refine lv_goto (tgt := 606) hx hb dL_law_488 (by decide) ?_
          refine lv_iinc (v := nI (4 * k + 4)) (lv' := [(3, .int (nI (4 * k + 4))), (0, .ref b), (1, .ref (A 0)), (2, .ref (μ 0))]) hx hb dL_law_606 hl (k := 0) rfl (nI_add (4 * k) 4) (by decide) rfl (fun ls hl => ?_)
          refine lv_goto (tgt := 18) hx hb dL_law_609 (by decide) ?_
          refine ih (k + 1) A1 σ1 nC2 x2 dw1 H2 locs2 (by omega) (by omega) hLI2 hsz2 hLB2 ls ?_
          rw [hF1.2.2, show 4 * (k + 1) = 4 * k + 4 by omega]
          exact (lv_sub hl [0, 1, 2, 3] rfl)
        · skip
          refine lv_tableIn (off := 459) (tgt := 491) hx hb dL_law_32 (by decide +kernel) (by decide +kernel) (by decide +kernel) (by decide) ?_
          refine lv_aload_n hx hb dL_law_491 rfl (lv_at hl 2 rfl) ?_
          refine lv_aload_n hx hb dL_law_492 rfl (lv_at hl 1 rfl) ?_
          refine lv_iload_n hx hb dL_law_493 rfl (lv_at hl 0 rfl) ?_
          refine lv_iconst (v := nI 1) hx hb dL_law_494 (by decide +kernel) ?_
          refine lv_iadd hx hb dL_law_495 ?_
          refine lv_topi (nm_r (show (nI (4 * k)) + (nI 1) = nI (4 * k + 1) from nI_add _ _) ?_)
          refine va_sld (A := fun q : Nat => s.heap.size ≤ q) hx hb hX hbl (Nat.not_le.mpr hbl) (law_S hsz hold hLB) (nI_in (c := 4 * k + 1) (by omega) (by omega)) dL_law_496 ?_
          rw [nI_clamp (show 4 * k + 1 < 2 ^ 31 by omega)]
          refine lv_aload_n hx hb dL_law_497 rfl (lv_at hl 1 rfl) ?_
          refine lv_iload_n hx hb dL_law_498 rfl (lv_at hl 0 rfl) ?_
          refine lv_iconst (v := nI 2) hx hb dL_law_499 (by decide +kernel) ?_
          refine lv_iadd hx hb dL_law_500 ?_
          refine lv_topi (nm_r (show (nI (4 * k)) + (nI 2) = nI (4 * k + 2) from nI_add _ _) ?_)
          refine va_sld (A := fun q : Nat => s.heap.size ≤ q) hx hb hX hbl (Nat.not_le.mpr hbl) (law_S hsz hold hLB) (nI_in (c := 4 * k + 2) (by omega) (by omega)) dL_law_501 ?_
          rw [nI_clamp (show 4 * k + 2 < 2 ^ 31 by omega)]
          refine k_callI (va_runV (As := [.int (xs (4 * k + 1)), .int (xs (4 * k + 2))]) (rest := []) ⟨hx, hb, hml, hown, hts⟩ (c_X3_history l D g s.heap.size H A σ dw hC (xs (4 * k + 1)) (xs (4 * k + 2))) (cwV 2 hts gL_law_X3_history rfl rfl rfl (by decide +kernel) ⟨Nat.le_of_ble_eq_true rfl, Nat.le_of_ble_eq_true rfl⟩) ⟨kPc_blind, k_recv hK hC.o rfl, fun U hU hW => kPc_at hK hU hW⟩ rfl rfl hl.1 rfl (lv_room (Nat.le_of_ble_eq_true rfl)) dL_law_502 ⟨(by show 25 + 5 * k + 0 ≤ 600000; omega), (by show 1645454 + 471 * k + 0 ≤ 7302250; omega)⟩) hLB (fun r0 H1 locs1 hLB1 hq1 => ?_)
          refine W.widen (k := 25 + 5 * (k + 1)) (n := 1645454 + 471 * (k + 1)) (by omega) (by omega) ?_
          obtain ⟨A1, σ1, dw1, hC1, hF1, hS1⟩ := hq1
          obtain ⟨hM1, hdis1, hold1, hsz1⟩ := hLI.cls hC1 hF1
          refine lv_pop hx hb dL_law_505 rfl ?_
          refine lv_aload_n hx hb dL_law_506 rfl (lv_at hl 3 rfl) ?_
          refine lv_aload_n hx hb dL_law_507 rfl (lv_at hl 1 rfl) ?_
          refine lv_iload_n hx hb dL_law_508 rfl (lv_at hl 0 rfl) ?_
          refine lv_iconst (v := nI 1) hx hb dL_law_509 (by decide +kernel) ?_
          refine lv_iadd hx hb dL_law_510 ?_
          refine lv_topi (nm_r (show (nI (4 * k)) + (nI 1) = nI (4 * k + 1) from nI_add _ _) ?_)
          refine va_sld (A := fun q : Nat => s.heap.size ≤ q) hx hb hX hbl (Nat.not_le.mpr hbl) (law_S hsz1 hold1 hLB1) (nI_in (c := 4 * k + 1) (by omega) (by omega)) dL_law_511 ?_
          rw [nI_clamp (show 4 * k + 1 < 2 ^ 31 by omega)]
          refine lv_aload_n hx hb dL_law_512 rfl (lv_at hl 1 rfl) ?_
          refine lv_iload_n hx hb dL_law_513 rfl (lv_at hl 0 rfl) ?_
          refine lv_iconst (v := nI 2) hx hb dL_law_514 (by decide +kernel) ?_
          refine lv_iadd hx hb dL_law_515 ?_
          refine lv_topi (nm_r (show (nI (4 * k)) + (nI 2) = nI (4 * k + 2) from nI_add _ _) ?_)
          refine va_sld (A := fun q : Nat => s.heap.size ≤ q) hx hb hX hbl (Nat.not_le.mpr hbl) (law_S hsz1 hold1 hLB1) (nI_in (c := 4 * k + 2) (by omega) (by omega)) dL_law_516 ?_
          rw [nI_clamp (show 4 * k + 2 < 2 ^ 31 by omega)]
          refine k_callI (va_runV (As := [.int (xs (4 * k + 1)), .int (xs (4 * k + 2))]) (rest := []) ⟨hx, hb, hml, hown, hts⟩ (c_X4_history l D g s.heap.size H1 μ σ nC x hM1 hR hMK (xs (4 * k + 1)) (xs (4 * k + 2))) (cwV 2 hts gL_law_X4_history rfl rfl rfl (by decide +kernel) ⟨Nat.le_of_ble_eq_true rfl, Nat.le_of_ble_eq_true rfl⟩) ⟨kPc_blind, k_recv hK hM1.o rfl, fun U hU hW => kPc_at hK hU hW⟩ rfl rfl hl.1 rfl (lv_room (Nat.le_of_ble_eq_true rfl)) dL_law_517 ⟨(by show 25 + 5 * (k + 1) + 0 ≤ 600000; omega), (by show 1645454 + 471 * (k + 1) + 0 ≤ 7302250; omega)⟩) hLB1 (fun r2 H2 locs2 hLB2 hq2 => ?_)
          refine W.widen (k := 25 + 5 * (k + 1)) (n := 1645454 + 471 * (k + 1)) (by omega) (by omega) ?_
          have hs1 : σ1 = σ := hS1.1
          obtain ⟨hrd2, hP2⟩ := hq2
          rw [← hs1] at hP2
          obtain ⟨nC2, x2, hLI2, hsz2⟩ := LI.ref hC1 hdis1 hold1 hP2
          refine lv_pop hx hb dL_law_520 rfl ?_
          refine lv_goto (tgt := 606) hx hb dL_law_521 (by decide) ?_
          refine lv_iinc (v := nI (4 * k + 4)) (lv' := [(3, .int (nI (4 * k + 4))), (0, .ref b), (1, .ref (A 0)), (2, .ref (μ 0))]) hx hb dL_law_606 hl (k := 0) rfl (nI_add (4 * k) 4) (by decide) rfl (fun ls hl => ?_)
          refine lv_goto (tgt := 18) hx hb dL_law_609 (by decide) ?_
          refine ih (k + 1) A1 σ1 nC2 x2 dw1 H2 locs2 (by omega) (by omega) hLI2 hsz2 hLB2 ls ?_
          rw [hF1.2.2, show 4 * (k + 1) = 4 * k + 4 by omega]
          exact (lv_sub hl [0, 1, 2, 3] rfl)
        · skip
          refine lv_tableIn (off := 492) (tgt := 524) hx hb dL_law_32 (by decide +kernel) (by decide +kernel) (by decide +kernel) (by decide) ?_
          refine lv_aload_n hx hb dL_law_524 rfl (lv_at hl 2 rfl) ?_
          refine lv_aload_n hx hb dL_law_525 rfl (lv_at hl 1 rfl) ?_
          refine lv_iload_n hx hb dL_law_526 rfl (lv_at hl 0 rfl) ?_
          refine lv_iconst (v := nI 1) hx hb dL_law_527 (by decide +kernel) ?_
          refine lv_iadd hx hb dL_law_528 ?_
          refine lv_topi (nm_r (show (nI (4 * k)) + (nI 1) = nI (4 * k + 1) from nI_add _ _) ?_)
          refine va_sld (A := fun q : Nat => s.heap.size ≤ q) hx hb hX hbl (Nat.not_le.mpr hbl) (law_S hsz hold hLB) (nI_in (c := 4 * k + 1) (by omega) (by omega)) dL_law_529 ?_
          rw [nI_clamp (show 4 * k + 1 < 2 ^ 31 by omega)]
          refine k_callI (va_runV (As := [.int (xs (4 * k + 1))]) (rest := []) ⟨hx, hb, hml, hown, hts⟩ (c_X3_report l D g s.heap.size H A σ dw hC (xs (4 * k + 1))) (cwV 1 hts gL_law_X3_report rfl rfl rfl (by decide +kernel) ⟨Nat.le_of_ble_eq_true rfl, Nat.le_of_ble_eq_true rfl⟩) ⟨kPc_blind, k_recv hK hC.o rfl, fun U hU hW => kPc_at hK hU hW⟩ rfl rfl hl.1 rfl (lv_room (Nat.le_of_ble_eq_true rfl)) dL_law_530 ⟨(by show 25 + 5 * k + 0 ≤ 600000; omega), (by show 1645454 + 471 * k + 0 ≤ 7302250; omega)⟩) hLB (fun r0 H1 locs1 hLB1 hq1 => ?_)
          refine W.widen (k := 25 + 5 * (k + 1)) (n := 1645454 + 471 * (k + 1)) (by omega) (by omega) ?_
          obtain ⟨A1, σ1, dw1, hC1, hF1, hS1⟩ := hq1
          obtain ⟨hM1, hdis1, hold1, hsz1⟩ := hLI.cls hC1 hF1
          refine lv_aload_n hx hb dL_law_533 rfl (lv_at hl 3 rfl) ?_
          refine lv_aload_n hx hb dL_law_534 rfl (lv_at hl 1 rfl) ?_
          refine lv_iload_n hx hb dL_law_535 rfl (lv_at hl 0 rfl) ?_
          refine lv_iconst (v := nI 1) hx hb dL_law_536 (by decide +kernel) ?_
          refine lv_iadd hx hb dL_law_537 ?_
          refine lv_topi (nm_r (show (nI (4 * k)) + (nI 1) = nI (4 * k + 1) from nI_add _ _) ?_)
          refine va_sld (A := fun q : Nat => s.heap.size ≤ q) hx hb hX hbl (Nat.not_le.mpr hbl) (law_S hsz1 hold1 hLB1) (nI_in (c := 4 * k + 1) (by omega) (by omega)) dL_law_538 ?_
          rw [nI_clamp (show 4 * k + 1 < 2 ^ 31 by omega)]
          refine k_callI (va_runV (As := [.int (xs (4 * k + 1))]) (rest := [.int (r0)]) ⟨hx, hb, hml, hown, hts⟩ (c_X4_report l D g s.heap.size H1 μ σ nC x hM1 hR hMK (xs (4 * k + 1))) (cwV 1 hts gL_law_X4_report rfl rfl rfl (by decide +kernel) ⟨Nat.le_of_ble_eq_true rfl, Nat.le_of_ble_eq_true rfl⟩) ⟨kPc_blind, k_recv hK hM1.o rfl, fun U hU hW => kPc_at hK hU hW⟩ rfl rfl hl.1 rfl (lv_room (Nat.le_of_ble_eq_true rfl)) dL_law_539 ⟨(by show 25 + 5 * (k + 1) + 0 ≤ 600000; omega), (by show 1645454 + 471 * (k + 1) + 0 ≤ 7302250; omega)⟩) hLB1 (fun r2 H2 locs2 hLB2 hq2 => ?_)
          refine W.widen (k := 25 + 5 * (k + 1)) (n := 1645454 + 471 * (k + 1)) (by omega) (by omega) ?_
          have hs1 : σ1 = σ := hS1.1
          obtain ⟨hrd2, hP2⟩ := hq2
          rw [← hs1] at hP2
          obtain ⟨nC2, x2, hLI2, hsz2⟩ := LI.ref hC1 hdis1 hold1 hP2
          refine lv_icmp_eq (tgt := 606) hx hb dL_law_542 (by decide) (fun _ => ?_) (fun q => absurd (SpReport.one hR.1 hS1 hrd2) q)
          refine lv_iinc (v := nI (4 * k + 4)) (lv' := [(3, .int (nI (4 * k + 4))), (0, .ref b), (1, .ref (A 0)), (2, .ref (μ 0))]) hx hb dL_law_606 hl (k := 0) rfl (nI_add (4 * k) 4) (by decide) rfl (fun ls hl => ?_)
          refine lv_goto (tgt := 18) hx hb dL_law_609 (by decide) ?_
          refine ih (k + 1) A1 σ1 nC2 x2 dw1 H2 locs2 (by omega) (by omega) hLI2 hsz2 hLB2 ls ?_
          rw [hF1.2.2, show 4 * (k + 1) = 4 * k + 4 by omega]
          exact (lv_sub hl [0, 1, 2, 3] rfl)
        · skip
          refine lv_tableIn (off := 515) (tgt := 547) hx hb dL_law_32 (by decide +kernel) (by decide +kernel) (by decide +kernel) (by decide) ?_
          refine lv_aload_n hx hb dL_law_547 rfl (lv_at hl 2 rfl) ?_
          refine lv_aload_n hx hb dL_law_548 rfl (lv_at hl 1 rfl) ?_
          refine lv_iload_n hx hb dL_law_549 rfl (lv_at hl 0 rfl) ?_
          refine lv_iconst (v := nI 1) hx hb dL_law_550 (by decide +kernel) ?_
          refine lv_iadd hx hb dL_law_551 ?_
          refine lv_topi (nm_r (show (nI (4 * k)) + (nI 1) = nI (4 * k + 1) from nI_add _ _) ?_)
          refine va_sld (A := fun q : Nat => s.heap.size ≤ q) hx hb hX hbl (Nat.not_le.mpr hbl) (law_S hsz hold hLB) (nI_in (c := 4 * k + 1) (by omega) (by omega)) dL_law_552 ?_
          rw [nI_clamp (show 4 * k + 1 < 2 ^ 31 by omega)]
          refine lv_aload_n hx hb dL_law_553 rfl (lv_at hl 1 rfl) ?_
          refine lv_iload_n hx hb dL_law_554 rfl (lv_at hl 0 rfl) ?_
          refine lv_iconst (v := nI 2) hx hb dL_law_555 (by decide +kernel) ?_
          refine lv_iadd hx hb dL_law_556 ?_
          refine lv_topi (nm_r (show (nI (4 * k)) + (nI 2) = nI (4 * k + 2) from nI_add _ _) ?_)
          refine va_sld (A := fun q : Nat => s.heap.size ≤ q) hx hb hX hbl (Nat.not_le.mpr hbl) (law_S hsz hold hLB) (nI_in (c := 4 * k + 2) (by omega) (by omega)) dL_law_557 ?_
          rw [nI_clamp (show 4 * k + 2 < 2 ^ 31 by omega)]
          refine k_callI (va_runV (As := [.int (xs (4 * k + 1)), .int (xs (4 * k + 2))]) (rest := []) ⟨hx, hb, hml, hown, hts⟩ (c_X3_list l D g s.heap.size H A σ dw hC (xs (4 * k + 1)) (xs (4 * k + 2))) (cwV 2 hts gL_law_X3_list rfl rfl rfl (by decide +kernel) ⟨Nat.le_of_ble_eq_true rfl, Nat.le_of_ble_eq_true rfl⟩) ⟨kPc_blind, k_recv hK hC.o rfl, fun U hU hW => kPc_at hK hU hW⟩ rfl rfl hl.1 rfl (lv_room (Nat.le_of_ble_eq_true rfl)) dL_law_558 ⟨(by show 25 + 5 * k + 0 ≤ 600000; omega), (by show 1645454 + 471 * k + 0 ≤ 7302250; omega)⟩) hLB (fun r0 H1 locs1 hLB1 hq1 => ?_)
          refine W.widen (k := 25 + 5 * (k + 1)) (n := 1645454 + 471 * (k + 1)) (by omega) (by omega) ?_
          obtain ⟨A1, σ1, dw1, hC1, hF1, hS1⟩ := hq1
          obtain ⟨hM1, hdis1, hold1, hsz1⟩ := hLI.cls hC1 hF1
          refine lv_pop hx hb dL_law_561 rfl ?_
          refine lv_aload_n hx hb dL_law_562 rfl (lv_at hl 3 rfl) ?_
          refine lv_aload_n hx hb dL_law_563 rfl (lv_at hl 1 rfl) ?_
          refine lv_iload_n hx hb dL_law_564 rfl (lv_at hl 0 rfl) ?_
          refine lv_iconst (v := nI 1) hx hb dL_law_565 (by decide +kernel) ?_
          refine lv_iadd hx hb dL_law_566 ?_
          refine lv_topi (nm_r (show (nI (4 * k)) + (nI 1) = nI (4 * k + 1) from nI_add _ _) ?_)
          refine va_sld (A := fun q : Nat => s.heap.size ≤ q) hx hb hX hbl (Nat.not_le.mpr hbl) (law_S hsz1 hold1 hLB1) (nI_in (c := 4 * k + 1) (by omega) (by omega)) dL_law_567 ?_
          rw [nI_clamp (show 4 * k + 1 < 2 ^ 31 by omega)]
          refine lv_aload_n hx hb dL_law_568 rfl (lv_at hl 1 rfl) ?_
          refine lv_iload_n hx hb dL_law_569 rfl (lv_at hl 0 rfl) ?_
          refine lv_iconst (v := nI 2) hx hb dL_law_570 (by decide +kernel) ?_
          refine lv_iadd hx hb dL_law_571 ?_
          refine lv_topi (nm_r (show (nI (4 * k)) + (nI 2) = nI (4 * k + 2) from nI_add _ _) ?_)
          refine va_sld (A := fun q : Nat => s.heap.size ≤ q) hx hb hX hbl (Nat.not_le.mpr hbl) (law_S hsz1 hold1 hLB1) (nI_in (c := 4 * k + 2) (by omega) (by omega)) dL_law_572 ?_
          rw [nI_clamp (show 4 * k + 2 < 2 ^ 31 by omega)]
          refine k_callI (va_runV (As := [.int (xs (4 * k + 1)), .int (xs (4 * k + 2))]) (rest := []) ⟨hx, hb, hml, hown, hts⟩ (c_X4_list l D g s.heap.size H1 μ σ nC x hM1 hR hMK (xs (4 * k + 1)) (xs (4 * k + 2))) (cwV 2 hts gL_law_X4_list rfl rfl rfl (by decide +kernel) ⟨Nat.le_of_ble_eq_true rfl, Nat.le_of_ble_eq_true rfl⟩) ⟨kPc_blind, k_recv hK hM1.o rfl, fun U hU hW => kPc_at hK hU hW⟩ rfl rfl hl.1 rfl (lv_room (Nat.le_of_ble_eq_true rfl)) dL_law_573 ⟨(by show 25 + 5 * (k + 1) + 0 ≤ 600000; omega), (by show 1645454 + 471 * (k + 1) + 0 ≤ 7302250; omega)⟩) hLB1 (fun r2 H2 locs2 hLB2 hq2 => ?_)
          refine W.widen (k := 25 + 5 * (k + 1)) (n := 1645454 + 471 * (k + 1)) (by omega) (by omega) ?_
          have hs1 : σ1 = σ := hS1
          obtain ⟨hrd2, hP2⟩ := hq2
          rw [← hs1] at hP2
          obtain ⟨nC2, x2, hLI2, hsz2⟩ := LI.ref hC1 hdis1 hold1 hP2
          refine lv_pop hx hb dL_law_576 rfl ?_
          refine lv_goto (tgt := 606) hx hb dL_law_577 (by decide) ?_
          refine lv_iinc (v := nI (4 * k + 4)) (lv' := [(3, .int (nI (4 * k + 4))), (0, .ref b), (1, .ref (A 0)), (2, .ref (μ 0))]) hx hb dL_law_606 hl (k := 0) rfl (nI_add (4 * k) 4) (by decide) rfl (fun ls hl => ?_)
          refine lv_goto (tgt := 18) hx hb dL_law_609 (by decide) ?_
          refine ih (k + 1) A1 σ1 nC2 x2 dw1 H2 locs2 (by omega) (by omega) hLI2 hsz2 hLB2 ls ?_
          rw [hF1.2.2, show 4 * (k + 1) = 4 * k + 4 by omega]
          exact (lv_sub hl [0, 1, 2, 3] rfl)
        · skip
          refine lv_tableIn (off := 548) (tgt := 580) hx hb dL_law_32 (by decide +kernel) (by decide +kernel) (by decide +kernel) (by decide) ?_
          refine lv_aload_n hx hb dL_law_580 rfl (lv_at hl 2 rfl) ?_
          refine k_callI (va_runV (As := []) (rest := []) ⟨hx, hb, hml, hown, hts⟩ (c_X3_versions l D g s.heap.size H A σ dw hC ) (cwV 0 hts gL_law_X3_versions rfl rfl rfl (by decide +kernel) ⟨Nat.le_of_ble_eq_true rfl, Nat.le_of_ble_eq_true rfl⟩) ⟨kPc_blind, k_recv hK hC.o rfl, fun U hU hW => kPc_at hK hU hW⟩ rfl rfl hl.1 rfl (lv_room (Nat.le_of_ble_eq_true rfl)) dL_law_581 ⟨(by show 25 + 5 * k + 0 ≤ 600000; omega), (by show 1645454 + 471 * k + 0 ≤ 7302250; omega)⟩) hLB (fun r0 H1 locs1 hLB1 hq1 => ?_)
          refine W.widen (k := 25 + 5 * (k + 1)) (n := 1645454 + 471 * (k + 1)) (by omega) (by omega) ?_
          obtain ⟨A1, σ1, dw1, hC1, hF1, hS1⟩ := hq1
          obtain ⟨hM1, hdis1, hold1, hsz1⟩ := hLI.cls hC1 hF1
          refine lv_pop hx hb dL_law_584 rfl ?_
          refine lv_aload_n hx hb dL_law_585 rfl (lv_at hl 3 rfl) ?_
          refine k_callI (va_runV (As := []) (rest := []) ⟨hx, hb, hml, hown, hts⟩ (c_X4_versions l D g s.heap.size H1 μ σ nC x hM1 hR hMK ) (cwV 0 hts gL_law_X4_versions rfl rfl rfl (by decide +kernel) ⟨Nat.le_of_ble_eq_true rfl, Nat.le_of_ble_eq_true rfl⟩) ⟨kPc_blind, k_recv hK hM1.o rfl, fun U hU hW => kPc_at hK hU hW⟩ rfl rfl hl.1 rfl (lv_room (Nat.le_of_ble_eq_true rfl)) dL_law_586 ⟨(by show 25 + 5 * (k + 1) + 0 ≤ 600000; omega), (by show 1645454 + 471 * (k + 1) + 0 ≤ 7302250; omega)⟩) hLB1 (fun r2 H2 locs2 hLB2 hq2 => ?_)
          refine W.widen (k := 25 + 5 * (k + 1)) (n := 1645454 + 471 * (k + 1)) (by omega) (by omega) ?_
          have hs1 : σ1 = σ := hS1.1
          obtain ⟨hrd2, hP2⟩ := hq2
          rw [← hs1] at hP2
          obtain ⟨nC2, x2, hLI2, hsz2⟩ := LI.ref hC1 hdis1 hold1 hP2
          refine lv_pop hx hb dL_law_589 rfl ?_
          refine lv_goto (tgt := 606) hx hb dL_law_590 (by decide) ?_
          refine lv_iinc (v := nI (4 * k + 4)) (lv' := [(3, .int (nI (4 * k + 4))), (0, .ref b), (1, .ref (A 0)), (2, .ref (μ 0))]) hx hb dL_law_606 hl (k := 0) rfl (nI_add (4 * k) 4) (by decide) rfl (fun ls hl => ?_)
          refine lv_goto (tgt := 18) hx hb dL_law_609 (by decide) ?_
          refine ih (k + 1) A1 σ1 nC2 x2 dw1 H2 locs2 (by omega) (by omega) hLI2 hsz2 hLB2 ls ?_
          rw [hF1.2.2, show 4 * (k + 1) = 4 * k + 4 by omega]
          exact (lv_sub hl [0, 1, 2, 3] rfl)
        · skip
          refine lv_tableIn (off := 561) (tgt := 593) hx hb dL_law_32 (by decide +kernel) (by decide +kernel) (by decide +kernel) (by decide) ?_
          refine lv_aload_n hx hb dL_law_593 rfl (lv_at hl 2 rfl) ?_
          refine k_callI (va_runV (As := []) (rest := []) ⟨hx, hb, hml, hown, hts⟩ (c_X3_branches l D g s.heap.size H A σ dw hC ) (cwV 0 hts gL_law_X3_branches rfl rfl rfl (by decide +kernel) ⟨Nat.le_of_ble_eq_true rfl, Nat.le_of_ble_eq_true rfl⟩) ⟨kPc_blind, k_recv hK hC.o rfl, fun U hU hW => kPc_at hK hU hW⟩ rfl rfl hl.1 rfl (lv_room (Nat.le_of_ble_eq_true rfl)) dL_law_594 ⟨(by show 25 + 5 * k + 0 ≤ 600000; omega), (by show 1645454 + 471 * k + 0 ≤ 7302250; omega)⟩) hLB (fun r0 H1 locs1 hLB1 hq1 => ?_)
          refine W.widen (k := 25 + 5 * (k + 1)) (n := 1645454 + 471 * (k + 1)) (by omega) (by omega) ?_
          obtain ⟨A1, σ1, dw1, hC1, hF1, hS1⟩ := hq1
          obtain ⟨hM1, hdis1, hold1, hsz1⟩ := hLI.cls hC1 hF1
          refine lv_pop hx hb dL_law_597 rfl ?_
          refine lv_aload_n hx hb dL_law_598 rfl (lv_at hl 3 rfl) ?_
          refine k_callI (va_runV (As := []) (rest := []) ⟨hx, hb, hml, hown, hts⟩ (c_X4_branches l D g s.heap.size H1 μ σ nC x hM1 hR hMK ) (cwV 0 hts gL_law_X4_branches rfl rfl rfl (by decide +kernel) ⟨Nat.le_of_ble_eq_true rfl, Nat.le_of_ble_eq_true rfl⟩) ⟨kPc_blind, k_recv hK hM1.o rfl, fun U hU hW => kPc_at hK hU hW⟩ rfl rfl hl.1 rfl (lv_room (Nat.le_of_ble_eq_true rfl)) dL_law_599 ⟨(by show 25 + 5 * (k + 1) + 0 ≤ 600000; omega), (by show 1645454 + 471 * (k + 1) + 0 ≤ 7302250; omega)⟩) hLB1 (fun r2 H2 locs2 hLB2 hq2 => ?_)
          refine W.widen (k := 25 + 5 * (k + 1)) (n := 1645454 + 471 * (k + 1)) (by omega) (by omega) ?_
          have hs1 : σ1 = σ := hS1.1
          obtain ⟨hrd2, hP2⟩ := hq2
          rw [← hs1] at hP2
          obtain ⟨nC2, x2, hLI2, hsz2⟩ := LI.ref hC1 hdis1 hold1 hP2
          refine lv_pop hx hb dL_law_602 rfl ?_
          refine lv_goto (tgt := 606) hx hb dL_law_603 (by decide) ?_
          refine lv_iinc (v := nI (4 * k + 4)) (lv' := [(3, .int (nI (4 * k + 4))), (0, .ref b), (1, .ref (A 0)), (2, .ref (μ 0))]) hx hb dL_law_606 hl (k := 0) rfl (nI_add (4 * k) 4) (by decide) rfl (fun ls hl => ?_)
          refine lv_goto (tgt := 18) hx hb dL_law_609 (by decide) ?_
          refine ih (k + 1) A1 σ1 nC2 x2 dw1 H2 locs2 (by omega) (by omega) hLI2 hsz2 hLB2 ls ?_
          rw [hF1.2.2, show 4 * (k + 1) = 4 * k + 4 by omega]
          exact (lv_sub hl [0, 1, 2, 3] rfl)
  refine loop 513 0 A σ 0 x0 dw Hm locsm (by omega) (by omega) hLI hszm hLBm ls ?_
  rw [hA0, hμ0]
  exact (lv_sub hl [0, 3, 2, 1] rfl)
set_option maxHeartbeats 4000000 in
theorem lw_walk (l : Launch) (hflags : l.flags = flags0) (b : Addr) (xs : List Int32) : MetFree l x (headSpec (Jvm.Cond.code x code maxLocals ret :: tables_1) room_1) (lw_P b xs) (fun _ _ _ _ _ => True) lw_Q := by
  refine MetFree.of_bodyS (code := code) (maxLocals := maxLocals) (ret := ret) (by decide) ?_ ?_
  · intro args s m h hn
    obtain ⟨meth, c, h1, h2, h3, h4, h5, h6, -, -⟩ := Cond.code_spec hn (atoms_spec (ws := Jvm.Cond.code x code maxLocals ret :: tables_1) h _ List.mem_cons_self)
    exact ⟨meth, c, h1, h2, h3, h4, h5, h6⟩
  · intro p e s m args below meth c s₁ B hml0 hP _
    obtain ⟨rfl, hx, hbd, hgv⟩ := hP
    obtain ⟨scr, harrAt, hlist, hof, hsmall⟩ := hx
    obtain ⟨hcb, hkn, -, -⟩ := State.arrayAt?_spec harrAt
    have hown : s.vm.findClass R_law = some m.cls := findClass_of_methodNamed B.named
    have hts0 : ∀ c ∈ (Jvm.Cond.code x code maxLocals ret :: tables_1), c.before #[Value.ref b] s = true := atoms_spec (ws := Jvm.Cond.code x code maxLocals ret :: tables_1) B.pre
    have hts : ∀ w ∈ lw_tbl, w.before #[Value.ref b] s = true := k2_hts_sels lw_privs (fun w hw => hts0 w (List.mem_cons_of_mem _ hw)) lw_privs_ok
    have hml : c.maxLocals = 4 := B.maxLocals_eq (hts0 _ List.mem_cons_self)
    have X₀ : Stand p l e room_1 s m #[Value.ref b] below meth c s₁ [] 0 0 := Stand.of_body B
    have hh0 : s₁.heap = s.heap := by rw [B.state]; rfl
    have hsz : scr.slots.size = xs.length := by rw [← Array.length_toList, hlist, List.length_map]
    have hval : ∀ j : Nat, j < xs.length → scr.slots[j]? = some (.int (xs.getD j 0)) := fun j hj => by
      rw [← Array.getElem?_toList, hlist]
      simp [hj]
    have hbl : b < s.heap.size := (Array.getElem?_eq_some_iff.mp hcb).1
    have hX : va_X b xs.length (fun j => xs.getD j 0) s s.heap := ⟨scr, hcb, hof, hkn, hsz, hval⟩
    have K : W p l e room_1 s m #[Value.ref b] below meth c s₁.heap [] 0 0 (lw_Z below #[Value.ref b] s) (entryFrame m ([Value.ref b] : List Value).toArray 4) := by
      rw [hh0]
      exact whole_start l hflags hbd ⟨B.exec, B.bytes, B.returns, hml, hown, hts, hX, hbl, B.notSynchronized, hgv⟩
    obtain ⟨t, a1, o, b1, b2, b3⟩ := K s₁ rfl X₀
    exact ⟨t, o, a1, b1, b2, b3⟩
theorem lw_pre_spec {args : Array Value} {s : State} (h : (Jvm.Cond.and given_1 narrow_1).before args s = true) (hr : rest_1_c.before args s = true) : ∃ (b : Addr) (xs : List Int32), lw_P b xs args s := by
  have hs := flat_of_before _ h
  have hq := flat_of_before _ hr
  have hc : (Cond.count 1).before args s = true := hs _ (by decide +kernel)
  have harr : (Cond.arrayOf (.arg 0) .int).before args s = true := hs _ (by decide +kernel)
  have hle : (Cond.le (.length (.arg 0)) (.int 2048)).before args s = true := hs _ (by decide +kernel)
  have hlen : (Cond.isInt (.length (.arg 0))).before args s = true := hq _ (by decide +kernel)
  have hall : (Cond.all (.arg 0) (.isInt (.elem (.arg 0) (.index 0)))).before args s = true := hq _ (by decide +kernel)
  obtain ⟨b, xs, hb, hx⟩ := State.ints_of_pre rfl harr hlen hall
  have hsm : xs.length < 2 ^ 31 := hx.choose_spec.2.2.2
  have hev : (Term.length (.arg 0)).eval args s none [] s = some (.int xs.length.toInt32) := hx.length_eval hb
  have hv := Cond.le_ints hev (show (Term.int 2048).eval args s none [] s = some (.int 2048) from rfl)
  have hd : xs.length.toInt32 ≤ 2048 := by
    simpa [Cond.before, Cond.holds, hv] using hle
  have hN : xs.length ≤ 2048 := (Int32.ofNat_le_ofNat hsm (by decide)).mp (show Int32.ofNat xs.length ≤ Int32.ofNat 2048 from hd)
  exact ⟨b, xs, Cond.one_arg hc (show args[0]? = some (.ref b) from hb), hx, hN, h⟩
theorem lw_comes (l : Launch) (hflags : l.flags = flags0) : Comes l x (Jvm.Cond.code x code maxLocals ret :: tables_1) room_1 (fun tb e args s => Calls_1 tb e args s ∧ rest_1 tb e args s ∧ Pre_1 tb e args s)
    (fun _ _ args s o t => lw_Q args s o t) := by
  intro p e ha hc hk s m args below hf hfit hheap happ hpre
  obtain ⟨b, xs, hP⟩ := lw_pre_spec hpre.2.2 hpre.2.1
  obtain ⟨k, o, h1, h2, h3, hQ⟩ := lw_walk l hflags b xs p e ha hc hk s m args below hf ((Spec.applies_iff_loose hf).mp happ).1 hP trivial
  exact ⟨k, o, h1, h2, h3, hQ⟩
theorem lw_frame {s t : State} {o : Outcome} {args : Array Value} (h : Framed s o t [] 600000 7302250) :
    Framed s o t (fieldLocs frame_1_writes args s ++ arrayLocs frame_1_arrays args s ++ staticLocs frame_1_statics s) 600000 7302250 := h
theorem lw_limb (L : Cond) (hL : ∀ (args : Array Value) (s t : State), L.after args s (.returned (some (.int 1))) t = true) :
    ArmFor flags0 classFile x code maxLocals ret World_1 tables_1 room_1 Calls_1 rest_1 Pre_1
      (fun tb e a s o t => postC L tb e a s o t ∧ Framed s o t (fieldLocs frame_1_writes a s ++ arrayLocs frame_1_arrays a s ++ staticLocs frame_1_statics s) 600000 7302250) := by
  intro l hflags _ _ p e ha hc hk s m args below hf hfit hheap happ hpre
  obtain ⟨k, o, h1, h2, h3, rfl, hF⟩ := lw_comes l hflags p e ha hc hk s m args below hf hfit hheap happ hpre
  exact ⟨k, _, h1, h2, h3, hL args s _, lw_frame hF⟩
theorem i_vc : Claimed_1_1 ∧ Claimed_1_2 := ⟨lw_limb limb_1_1 (fun args s t => by simp [limb_1_1, Cond.after, Cond.holds, Cond.value]), lw_limb limb_1_2 (fun args s t => Cond.after_iff.mpr (by
  first | (rw [show limb_1_2 = Cond.eq .result (.int 1) from rfl, Cond.eq_ints (x := 1) (y := 1) rfl rfl]; simp; done) | (simp [limb_1_2, Cond.value, Term.eval]; done)))⟩


/-! 03: numbers, booleans as ints; branch rows in these words; ends of methods -/
def b2i (b : Bool) : Int32 := if b then 1 else 0
theorem b2i_t : b2i true = 1 := rfl
theorem b2i_f : b2i false = 0 := rfl
theorem b2i_0 {b : Bool} : b2i b = 0 ↔ b = false := by cases b <;> decide
theorem b2i_1 {b : Bool} : b2i b = 1 ↔ b = true := by cases b <;> decide
theorem b2i_eq {a b : Bool} : b2i a = b2i b ↔ a = b := by cases a <;> cases b <;> decide
theorem b2i_b (b : Bool) : (b2i b).toInt8.toInt32 = b2i b := by cases b <;> decide +kernel
theorem b2i_z (b : Bool) : narrow .boolean (.int (b2i b)) = .int (b2i b) := by cases b <;> rfl
theorem b2i_y (b : Bool) : narrow .byte (.int (b2i b)) = .int (b2i b) := by cases b <;> rfl
theorem nI_b1 : nI 1 = b2i true := by decide +kernel
theorem nI_b0 : nI 0 = b2i false := by decide +kernel
theorem nI_neg {n : Nat} (h : n < 2 ^ 31) : ¬ nI n = -1 := by
  intro e
  have h1 := congrArg Int32.toInt e
  rw [nI_toInt h] at h1
  have h2 : (-1 : Int32).toInt = -1 := by decide
  omega
section NROWS
variable {p : Program} {l : Launch} {e : Env} {R : Room} {s : State} {m : MethodId} {args : Array Value} {below : List Frame} {meth : Method} {c : Code} {H : Heap} {locs : List Loc} {cells slots : Nat} {Q : State → Prop}
variable {cc : ByteArray} {pc : Nat} {ls : Array Slot} {rest : List Value}
theorem n_icmp_ge (hexec : p.tables.exec = Jvm.exec) (hb : c.code = cc) {a b : Nat} {off : Int} {tgt : Nat} (hdg : decode cc pc = .ok (.if_icmp .ge off, 3)) (ht : (pc : Int) + off = (tgt : Int)) (ha : a < 2 ^ 31) (hb2 : b < 2 ^ 31)
    (kt : b ≤ a → W p l e R s m args below meth c H locs cells slots Q (F0 m tgt ls rest)) (kf : a < b → W p l e R s m args below meth c H locs cells slots Q (F0 m (pc + 3) ls rest)) : W p l e R s m args below meth c H locs cells slots Q (F0 m pc ls (.int (nI b) :: .int (nI a) :: rest)) :=
  lv_icmp_ge hexec hb hdg ht (fun h => kt ((nI_leI hb2 ha).mp h)) (fun h => kf (Nat.not_le.mp (fun q => h ((nI_leI hb2 ha).mpr q))))
theorem n_icmp_lt (hexec : p.tables.exec = Jvm.exec) (hb : c.code = cc) {a b : Nat} {off : Int} {tgt : Nat} (hdg : decode cc pc = .ok (.if_icmp .lt off, 3)) (ht : (pc : Int) + off = (tgt : Int)) (ha : a < 2 ^ 31) (hb2 : b < 2 ^ 31)
    (kt : a < b → W p l e R s m args below meth c H locs cells slots Q (F0 m tgt ls rest)) (kf : b ≤ a → W p l e R s m args below meth c H locs cells slots Q (F0 m (pc + 3) ls rest)) : W p l e R s m args below meth c H locs cells slots Q (F0 m pc ls (.int (nI b) :: .int (nI a) :: rest)) :=
  lv_icmp_lt hexec hb hdg ht (fun h => kt ((nI_ltI ha hb2).mp h)) (fun h => kf (Nat.not_lt.mp (fun q => h ((nI_ltI ha hb2).mpr q))))
theorem n_icmp_eq (hexec : p.tables.exec = Jvm.exec) (hb : c.code = cc) {a b : Nat} {off : Int} {tgt : Nat} (hdg : decode cc pc = .ok (.if_icmp .eq off, 3)) (ht : (pc : Int) + off = (tgt : Int)) (ha : a < 2 ^ 31) (hb2 : b < 2 ^ 31)
    (kt : a = b → W p l e R s m args below meth c H locs cells slots Q (F0 m tgt ls rest)) (kf : ¬ a = b → W p l e R s m args below meth c H locs cells slots Q (F0 m (pc + 3) ls rest)) : W p l e R s m args below meth c H locs cells slots Q (F0 m pc ls (.int (nI b) :: .int (nI a) :: rest)) :=
  lv_icmp_eq hexec hb hdg ht (fun h => kt ((nI_eq ha hb2).mp h)) (fun h => kf (fun q => h ((nI_eq ha hb2).mpr q)))
theorem n_icmp_ne (hexec : p.tables.exec = Jvm.exec) (hb : c.code = cc) {a b : Nat} {off : Int} {tgt : Nat} (hdg : decode cc pc = .ok (.if_icmp .ne off, 3)) (ht : (pc : Int) + off = (tgt : Int)) (ha : a < 2 ^ 31) (hb2 : b < 2 ^ 31)
    (kt : ¬ a = b → W p l e R s m args below meth c H locs cells slots Q (F0 m tgt ls rest)) (kf : a = b → W p l e R s m args below meth c H locs cells slots Q (F0 m (pc + 3) ls rest)) : W p l e R s m args below meth c H locs cells slots Q (F0 m pc ls (.int (nI b) :: .int (nI a) :: rest)) :=
  lv_icmp_ne hexec hb hdg ht (fun h => kt (fun q => h ((nI_eq ha hb2).mpr q))) (fun h => kf (Decidable.byContradiction fun z => z ((nI_eq ha hb2).mp h)))
theorem z_icmp_eq (hexec : p.tables.exec = Jvm.exec) (hb : c.code = cc) {a b : Bool} {off : Int} {tgt : Nat} (hdg : decode cc pc = .ok (.if_icmp .eq off, 3)) (ht : (pc : Int) + off = (tgt : Int))
    (kt : a = b → W p l e R s m args below meth c H locs cells slots Q (F0 m tgt ls rest)) (kf : ¬ a = b → W p l e R s m args below meth c H locs cells slots Q (F0 m (pc + 3) ls rest)) : W p l e R s m args below meth c H locs cells slots Q (F0 m pc ls (.int (b2i b) :: .int (b2i a) :: rest)) :=
  lv_icmp_eq hexec hb hdg ht (fun h => kt (b2i_eq.mp h)) (fun h => kf (fun q => h (b2i_eq.mpr q)))
theorem z_icmp_ne (hexec : p.tables.exec = Jvm.exec) (hb : c.code = cc) {a b : Bool} {off : Int} {tgt : Nat} (hdg : decode cc pc = .ok (.if_icmp .ne off, 3)) (ht : (pc : Int) + off = (tgt : Int))
    (kt : ¬ a = b → W p l e R s m args below meth c H locs cells slots Q (F0 m tgt ls rest)) (kf : a = b → W p l e R s m args below meth c H locs cells slots Q (F0 m (pc + 3) ls rest)) : W p l e R s m args below meth c H locs cells slots Q (F0 m pc ls (.int (b2i b) :: .int (b2i a) :: rest)) :=
  lv_icmp_ne hexec hb hdg ht (fun h => kt (fun q => h (b2i_eq.mpr q))) (fun h => kf (Decidable.byContradiction fun z => z (b2i_eq.mp h)))
theorem z_if_eq (hexec : p.tables.exec = Jvm.exec) (hb : c.code = cc) {a : Bool} {off : Int} {tgt : Nat} (hdg : decode cc pc = .ok (.ifCond .eq off, 3)) (ht : (pc : Int) + off = (tgt : Int))
    (kt : a = false → W p l e R s m args below meth c H locs cells slots Q (F0 m tgt ls rest)) (kf : a = true → W p l e R s m args below meth c H locs cells slots Q (F0 m (pc + 3) ls rest)) : W p l e R s m args below meth c H locs cells slots Q (F0 m pc ls (.int (b2i a) :: rest)) :=
  lv_if_eq hexec hb hdg ht (fun h => kt (b2i_0.mp h)) (fun h => kf (by cases a; exact absurd rfl h; rfl))
theorem z_if_ne (hexec : p.tables.exec = Jvm.exec) (hb : c.code = cc) {a : Bool} {off : Int} {tgt : Nat} (hdg : decode cc pc = .ok (.ifCond .ne off, 3)) (ht : (pc : Int) + off = (tgt : Int))
    (kt : a = true → W p l e R s m args below meth c H locs cells slots Q (F0 m tgt ls rest)) (kf : a = false → W p l e R s m args below meth c H locs cells slots Q (F0 m (pc + 3) ls rest)) : W p l e R s m args below meth c H locs cells slots Q (F0 m pc ls (.int (b2i a) :: rest)) :=
  lv_if_ne hexec hb hdg ht (fun h => kt (by cases a; exact absurd rfl h; rfl)) (fun h => kf (b2i_0.mp h))
theorem n_if_lt (hexec : p.tables.exec = Jvm.exec) (hb : c.code = cc) {a : Nat} {off : Int} {tgt : Nat} (hdg : decode cc pc = .ok (.ifCond .lt off, 3)) (ht : (pc : Int) + off = (tgt : Int)) (ha : a < 2 ^ 31)
    (kf : W p l e R s m args below meth c H locs cells slots Q (F0 m (pc + 3) ls rest)) : W p l e R s m args below meth c H locs cells slots Q (F0 m pc ls (.int (nI a) :: rest)) :=
  lv_if_lt hexec hb hdg ht (fun h => absurd h (nI_pos ha)) (fun _ => kf)
theorem n_if_ge (hexec : p.tables.exec = Jvm.exec) (hb : c.code = cc) {a : Nat} {off : Int} {tgt : Nat} (hdg : decode cc pc = .ok (.ifCond .ge off, 3)) (ht : (pc : Int) + off = (tgt : Int)) (ha : a < 2 ^ 31)
    (kt : W p l e R s m args below meth c H locs cells slots Q (F0 m tgt ls rest)) : W p l e R s m args below meth c H locs cells slots Q (F0 m pc ls (.int (nI a) :: rest)) :=
  lv_if_ge hexec hb hdg ht (fun _ => kt) (fun h => absurd (nI_pos' ha) h)
theorem n_if_eq (hexec : p.tables.exec = Jvm.exec) (hb : c.code = cc) {a : Nat} {off : Int} {tgt : Nat} (hdg : decode cc pc = .ok (.ifCond .eq off, 3)) (ht : (pc : Int) + off = (tgt : Int)) (ha : a < 2 ^ 31)
    (kt : a = 0 → W p l e R s m args below meth c H locs cells slots Q (F0 m tgt ls rest)) (kf : ¬ a = 0 → W p l e R s m args below meth c H locs cells slots Q (F0 m (pc + 3) ls rest)) : W p l e R s m args below meth c H locs cells slots Q (F0 m pc ls (.int (nI a) :: rest)) :=
  lv_if_eq hexec hb hdg ht (fun h => kt ((nI_eq ha (by omega)).mp (h.trans nI_0.symm))) (fun h => kf (fun q => h (by rw [q]; exact nI_0)))
theorem n_if_ne (hexec : p.tables.exec = Jvm.exec) (hb : c.code = cc) {a : Nat} {off : Int} {tgt : Nat} (hdg : decode cc pc = .ok (.ifCond .ne off, 3)) (ht : (pc : Int) + off = (tgt : Int)) (ha : a < 2 ^ 31)
    (kt : ¬ a = 0 → W p l e R s m args below meth c H locs cells slots Q (F0 m tgt ls rest)) (kf : a = 0 → W p l e R s m args below meth c H locs cells slots Q (F0 m (pc + 3) ls rest)) : W p l e R s m args below meth c H locs cells slots Q (F0 m pc ls (.int (nI a) :: rest)) :=
  lv_if_ne hexec hb hdg ht (fun h => kt (fun q => h (by rw [q]; exact nI_0))) (fun h => kf ((nI_eq ha (by omega)).mp (h.trans nI_0.symm)))
-- ends
theorem r_iX {v : Int32} {X : Value} (hexec : p.tables.exec = Jvm.exec) (hb : c.code = cc) (hr : meth.sig.returnType = some .int) (hX : Value.int v = X) (hdg : decode cc pc = .ok (.ireturn, 1)) (hlocks : meth.locks = false) : W p l e R s m args below meth c H [] 0 0 (MQ below (kX X H) args s 0 0 kN) (F0 m pc ls [.int v]) :=
  W.iret hexec hb hr (fun t ht _ => ⟨by rw [hX], ht⟩) (fun _ h => by cases h) hdg
theorem r_zX {b : Bool} {X : Value} (hexec : p.tables.exec = Jvm.exec) (hb : c.code = cc) (hr : meth.sig.returnType = some .boolean) (hX : Value.int (b2i b) = X) (hdg : decode cc pc = .ok (.ireturn, 1)) (hlocks : meth.locks = false) : W p l e R s m args below meth c H [] 0 0 (MQ below (kX X H) args s 0 0 kN) (F0 m pc ls [.int (b2i b)]) :=
  W.zret hexec hb hr (b2i_z b) (fun t ht _ => ⟨by rw [hX], ht⟩) (fun _ h => by cases h) hdg
theorem r_aX {v : Value} {n : String} (hexec : p.tables.exec = Jvm.exec) (hb : c.code = cc) (hr : meth.sig.returnType = some (.object n)) (hv : v = .null ∨ ∃ a, v = .ref a) (hdg : decode cc pc = .ok (.areturn, 1)) (hlocks : meth.locks = false) : W p l e R s m args below meth c H [] 0 0 (MQ below (kX v H) args s 0 0 kN) (F0 m pc ls [v]) :=
  W.aret hexec hb hr (Or.inl ⟨n, rfl⟩) hv (fun t ht _ => ⟨rfl, ht⟩) (fun _ h => by cases h) hdg
theorem r_iS {v : Int32} {P : Int32 → Prop} (hexec : p.tables.exec = Jvm.exec) (hb : c.code = cc) (hr : meth.sig.returnType = some .int) (hP : P v) (hdg : decode cc pc = .ok (.ireturn, 1)) (hlocks : meth.locks = false) : W p l e R s m args below meth c H [] 0 0 (MQ below (kS P H) args s 0 0 kN) (F0 m pc ls [.int v]) :=
  W.iret hexec hb hr (fun t ht _ => ⟨v, rfl, hP, ht⟩) (fun _ h => by cases h) hdg
theorem r_zS {b : Bool} {P : Int32 → Prop} (hexec : p.tables.exec = Jvm.exec) (hb : c.code = cc) (hr : meth.sig.returnType = some .boolean) (hP : P (b2i b)) (hdg : decode cc pc = .ok (.ireturn, 1)) (hlocks : meth.locks = false) : W p l e R s m args below meth c H [] 0 0 (MQ below (kS P H) args s 0 0 kN) (F0 m pc ls [.int (b2i b)]) :=
  W.zret hexec hb hr (b2i_z b) (fun t ht _ => ⟨_, rfl, hP, ht⟩) (fun _ h => by cases h) hdg
theorem r_iI {b0 mc ms : Nat} {v : Int32} {P : Int32 → Heap → Prop} (hexec : p.tables.exec = Jvm.exec) (hb : c.code = cc) (hr : meth.sig.returnType = some .int) (hLB : LB b0 locs) (h1 : cells ≤ mc) (h2 : slots ≤ ms) (hP : P v H) (hdg : decode cc pc = .ok (.ireturn, 1)) (hlocks : meth.locks = false) : W p l e R s m args below meth c H locs cells slots (MQ below (kI P) args s mc ms (kF b0)) (F0 m pc ls [.int v]) :=
  W.widen h1 h2 (W.iret hexec hb hr (fun t ht _ => ⟨v, rfl, by rw [ht]; exact hP⟩) hLB hdg)
theorem r_zI {b0 mc ms : Nat} {b : Bool} {P : Int32 → Heap → Prop} (hexec : p.tables.exec = Jvm.exec) (hb : c.code = cc) (hr : meth.sig.returnType = some .boolean) (hLB : LB b0 locs) (h1 : cells ≤ mc) (h2 : slots ≤ ms) (hP : P (b2i b) H) (hdg : decode cc pc = .ok (.ireturn, 1)) (hlocks : meth.locks = false) : W p l e R s m args below meth c H locs cells slots (MQ below (kI P) args s mc ms (kF b0)) (F0 m pc ls [.int (b2i b)]) :=
  W.widen h1 h2 (W.zret hexec hb hr (b2i_z b) (fun t ht _ => ⟨_, rfl, by rw [ht]; exact hP⟩) hLB hdg)
theorem r_vU {b0 mc ms : Nat} {P : Heap → Prop} (hexec : p.tables.exec = Jvm.exec) (hb : c.code = cc) (hr : meth.sig.returnType = none) (hLB : LB b0 locs) (h1 : cells ≤ mc) (h2 : slots ≤ ms) (hP : P H) (hdg : decode cc pc = .ok (.return_, 1)) (hlocks : meth.locks = false) : W p l e R s m args below meth c H locs cells slots (MQ below (kU P) args s mc ms (kF b0)) (F0 m pc ls []) :=
  W.widen h1 h2 (W.vret hexec hb hr (fun t ht _ => ⟨rfl, by rw [ht]; exact hP⟩) hLB hdg)
theorem r_aR {b0 mc ms : Nat} {a : Nat} {n : String} {P : Nat → Heap → Prop} (hexec : p.tables.exec = Jvm.exec) (hb : c.code = cc) (hr : meth.sig.returnType = some (.object n)) (hLB : LB b0 locs) (h1 : cells ≤ mc) (h2 : slots ≤ ms) (hP : P a H) (hdg : decode cc pc = .ok (.areturn, 1)) (hlocks : meth.locks = false) : W p l e R s m args below meth c H locs cells slots (MQ below (kR P) args s mc ms (kF b0)) (F0 m pc ls [.ref a]) :=
  W.widen h1 h2 (W.aret hexec hb hr (Or.inl ⟨n, rfl⟩) (Or.inr ⟨a, rfl⟩) (fun t ht _ => ⟨a, rfl, by rw [ht]; exact hP⟩) hLB hdg)
end NROWS
-- bits of a set held in words
def bt (f : Nat → Int64) (t : Nat) : Bool := (f (t / 64)).toBitVec.getLsbD (t % 64)
def isTb (t : Int32) : Bool := decide (0 ≤ t) && decide (t < 4096)
/-! ===== Int64 as a set of bits: test, set, clear ===== -/
theorem ts_nf {x : Bool} (h : ¬ x = false) : x = true := by cases x <;> first | rfl | exact absurd rfl h
theorem ts_nt {x : Bool} (h : ¬ x = true) : x = false := by cases x <;> first | rfl | exact absurd rfl h
theorem ts_bit {w : Int64} {s : UInt64} {j : Nat} (hj : j < 64) (hs : s.toNat = j) : ((w.toUInt64 >>> s).toInt64 &&& 1) = 0 ↔ w.toBitVec.getLsbD j = false := by
  have e : (w.toUInt64 >>> s).toInt64.toBitVec = w.toBitVec >>> j := by
    apply BitVec.eq_of_toNat_eq
    show (w.toUInt64 >>> s).toNat = _
    rw [UInt64.toNat_shiftRight, hs, Nat.mod_eq_of_lt hj, BitVec.toNat_ushiftRight]
    rfl
  rw [← Int64.toBitVec_inj, Int64.toBitVec_and, e]
  show w.toBitVec >>> j &&& 1#64 = 0#64 ↔ _
  constructor
  · intro h
    have t := congrArg (fun x => x.getLsbD 0) h
    simpa using t
  · intro h
    apply BitVec.eq_of_getLsbD_eq
    intro i hi
    cases i with
    | zero => simp [h]
    | succ i => simp
theorem ts_or {w m : Int64} {j : Nat} (hj : j < 64) (hm : m.toBitVec = BitVec.twoPow 64 j) : (w ||| m) = w ↔ w.toBitVec.getLsbD j = true := by
  rw [← Int64.toBitVec_inj, Int64.toBitVec_or, hm]
  constructor
  · intro h
    have t := congrArg (fun x => x.getLsbD j) h
    simp only [BitVec.getLsbD_or, BitVec.getLsbD_twoPow] at t
    simpa [hj] using t.symm
  · intro h
    apply BitVec.eq_of_getLsbD_eq
    intro i hi
    rw [BitVec.getLsbD_or, BitVec.getLsbD_twoPow]
    by_cases e : j = i
    · subst e; rw [h, Bool.true_or]
    · simp [e]
theorem ts_and {w m : Int64} {j : Nat} (hj : j < 64) (hm : m.toBitVec = BitVec.twoPow 64 j) : (w &&& (m ^^^ (-1))) = w ↔ w.toBitVec.getLsbD j = false := by
  have ha : (-1 : Int64).toBitVec = BitVec.allOnes 64 := by decide
  rw [← Int64.toBitVec_inj, Int64.toBitVec_and, Int64.toBitVec_xor, hm, ha]
  constructor
  · intro h
    have t := congrArg (fun x => x.getLsbD j) h
    simp only [BitVec.getLsbD_and, BitVec.getLsbD_xor, BitVec.getLsbD_twoPow, BitVec.getLsbD_allOnes] at t
    simpa [hj] using t.symm
  · intro h
    apply BitVec.eq_of_getLsbD_eq
    intro i hi
    rw [BitVec.getLsbD_and, BitVec.getLsbD_xor, BitVec.getLsbD_twoPow, BitVec.getLsbD_allOnes]
    by_cases e : j = i
    · subst e; rw [h, Bool.false_and]
    · simp [e, hi]
/-! ===== lN n to 2^64: shifts, and, or, masks, one bit ===== -/
theorem wb_tb (n : Nat) : (lN n).toBitVec = BitVec.ofNat 64 n := rfl
theorem wb_inj {a b : Int64} (h : a.toBitVec = b.toBitVec) : a = b := Int64.toBitVec_inj.mp h
theorem wb_tn {n : Nat} (h : n < 2 ^ 64) : (lN n).toBitVec.toNat = n := by rw [wb_tb, BitVec.toNat_ofNat, Nat.mod_eq_of_lt h]
theorem wb_of (x : Int64) : ∃ n, n < 2 ^ 64 ∧ x = lN n := ⟨x.toBitVec.toNat, x.toBitVec.isLt, wb_inj (by rw [wb_tb]; simp)⟩
theorem wb_of32 (x : Int32) : ∃ n, n < 2 ^ 32 ∧ x = nI n := ⟨x.toBitVec.toNat, x.toBitVec.isLt, Int32.toBitVec_inj.mp (by show _ = BitVec.ofNat 32 _; simp)⟩
theorem wb_c : ∀ k, k < 64 → ((nI k).toInt64 &&& 63) = lN k := by decide +kernel
theorem wb_cu : ∀ k, k < 64 → ((nI k).toInt64.toUInt64 &&& Int64.toUInt64 63) = UInt64.ofNat k := by decide +kernel
theorem wb_sm : ∀ k, k < 64 → (BitVec.ofNat 64 k).smod 64 = BitVec.ofNat 64 k := by decide +kernel
theorem wb_pw {a b : Nat} (h : a ≤ b) : 2 ^ b = 2 ^ a * 2 ^ (b - a) := by rw [← Nat.pow_add]; congr 1; omega
theorem wb_lt2 {a b : Nat} (h : a < b) : 2 ^ a < 2 ^ b := Nat.pow_lt_pow_right (by decide) h
theorem wb_mod (n : Nat) : lN n = lN (n % 2 ^ 64) := wb_inj (by rw [wb_tb, wb_tb]; apply BitVec.eq_of_toNat_eq; rw [BitVec.toNat_ofNat, BitVec.toNat_ofNat, Nat.mod_mod])
theorem wb_shl (n : Nat) {k : Nat} (hk : k < 64) : lN n <<< ((nI k).toInt64 &&& 63) = lN (n * 2 ^ k) := by
  rw [wb_c k hk]
  apply wb_inj
  rw [Int64.toBitVec_shiftLeft, wb_tb, wb_tb, wb_tb, wb_sm k hk]
  apply BitVec.eq_of_toNat_eq
  rw [BitVec.shiftLeft_eq', BitVec.toNat_shiftLeft, BitVec.toNat_ofNat, BitVec.toNat_ofNat, BitVec.toNat_ofNat, Nat.mod_eq_of_lt (show k < 2 ^ 64 by omega), Nat.shiftLeft_eq, Nat.mul_mod, Nat.mod_mod, ← Nat.mul_mod]
/-! bits of words -/
theorem w_bit (x : Int64) {k : Nat} (hk : k < 64) : lg_cmp ((x.toUInt64 >>> ((nI k).toInt64.toUInt64 &&& Int64.toUInt64 63)).toInt64 &&& 1) 0 = 0 ↔ x.toBitVec.getLsbD k = false := by
  rw [lg_cmp_eq, wb_cu k hk]
  exact ts_bit hk (Nat.mod_eq_of_lt (by omega))
theorem w_one {k : Nat} (hk : k < 64) : ((1 : Int64) <<< ((nI k).toInt64 &&& 63)).toBitVec = BitVec.twoPow 64 k := by
  have h := wb_shl 1 hk
  rw [show lN 1 = (1 : Int64) from rfl] at h
  rw [h, wb_tb, Nat.one_mul]
  apply BitVec.eq_of_toNat_eq
  rw [BitVec.toNat_ofNat, BitVec.toNat_twoPow]
theorem w_or (x y : Int64) (j : Nat) : (x ||| y).toBitVec.getLsbD j = (x.toBitVec.getLsbD j || y.toBitVec.getLsbD j) := by rw [Int64.toBitVec_or, BitVec.getLsbD_or]
theorem w_and (x y : Int64) (j : Nat) : (x &&& y).toBitVec.getLsbD j = (x.toBitVec.getLsbD j && y.toBitVec.getLsbD j) := by rw [Int64.toBitVec_and, BitVec.getLsbD_and]
theorem w_xor (x y : Int64) (j : Nat) : (x ^^^ y).toBitVec.getLsbD j = (x.toBitVec.getLsbD j ^^ y.toBitVec.getLsbD j) := by rw [Int64.toBitVec_xor, BitVec.getLsbD_xor]
theorem w_not (x : Int64) {j : Nat} (hj : j < 64) : (x ^^^ (-1)).toBitVec.getLsbD j = !(x.toBitVec.getLsbD j) := by
  have ha : (-1 : Int64).toBitVec = BitVec.allOnes 64 := by decide
  rw [w_xor, ha, BitVec.getLsbD_allOnes]
  simp [hj]
theorem w_ext {x y : Int64} (h : ∀ j, j < 64 → x.toBitVec.getLsbD j = y.toBitVec.getLsbD j) : x = y := wb_inj (BitVec.eq_of_getLsbD_eq (fun i hi => h i hi))
theorem w_0 (j : Nat) : (0 : Int64).toBitVec.getLsbD j = false := by
  show (0#64).getLsbD j = false
  simp
theorem bt_get (f : Nat → Int64) {w j : Nat} (hj : j < 64) : bt f (64 * w + j) = (f w).toBitVec.getLsbD j := by
  unfold bt
  rw [show (64 * w + j) / 64 = w by omega, show (64 * w + j) % 64 = j by omega]
/-- a set with one triple put in or out -/
theorem bt_set (f : Nat → Int64) (t : Nat) (v : Bool) {u : Nat} (x : Int64) (hx : ∀ j, j < 64 → x.toBitVec.getLsbD j = if j = t % 64 then v else (f (t / 64)).toBitVec.getLsbD j) : bt (vp_updL f (t / 64) x) u = if u = t then v else bt f u := by
  unfold bt vp_updL
  by_cases h : u / 64 = t / 64
  · rw [if_pos h, hx _ (by omega), h]
    by_cases h2 : u % 64 = t % 64
    · rw [if_pos h2, if_pos (by omega)]
    · rw [if_neg h2, if_neg (by omega)]
  · rw [if_neg h, if_neg (fun q => h (by rw [q]))]
theorem w_put (y : Int64) {k : Nat} (hk : k < 64) (j : Nat) (hj : j < 64) : (y ||| ((1 : Int64) <<< ((nI k).toInt64 &&& 63))).toBitVec.getLsbD j = if j = k then true else y.toBitVec.getLsbD j := by
  rw [w_or, w_one hk, BitVec.getLsbD_twoPow]
  by_cases h : j = k
  · subst h; simp [hj]
  · have h' : ¬ k = j := fun q => h q.symm
    simp [h, h']
theorem w_del (y : Int64) {k : Nat} (hk : k < 64) (j : Nat) (hj : j < 64) : (y &&& (((1 : Int64) <<< ((nI k).toInt64 &&& 63)) ^^^ (-1))).toBitVec.getLsbD j = if j = k then false else y.toBitVec.getLsbD j := by
  rw [w_and, w_not _ hj, w_one hk, BitVec.getLsbD_twoPow]
  by_cases h : j = k
  · subst h; simp [hj]
  · have h' : ¬ k = j := fun q => h q.symm
    simp [h, h']
theorem isTb_lt {t : Int32} (h : t < 0) : isTb t = false := by
  unfold isTb
  rw [show decide (0 ≤ t) = false from decide_eq_false (Int32.not_le.mpr h)]
  rfl
theorem isTb_ge {t : Int32} (h : nI 4096 ≤ t) : isTb t = false := by
  unfold isTb
  rw [show decide (t < 4096) = false from decide_eq_false (Int32.not_lt.mpr h), Bool.and_false]
theorem isTb_in {t : Int32} (h : ¬ t < 0) (h2 : ¬ nI 4096 ≤ t) : isTb t = true := by
  unfold isTb
  rw [show decide (0 ≤ t) = true from decide_eq_true (Int32.not_lt.mp h), show decide (t < 4096) = true from decide_eq_true (Int32.not_le.mp h2)]
  rfl
theorem isTb_nI {t : Nat} (h : t < 4096) : isTb (nI t) = true := isTb_in (nI_pos (by omega)) (nI_ge h (by omega))
theorem isTb_ex {t : Int32} (h : isTb t = true) : ∃ k : Nat, k < 4096 ∧ t = nI k := by
  unfold isTb at h
  rw [Bool.and_eq_true] at h
  have h1 : (0 : Int32) ≤ t := of_decide_eq_true h.1
  have h2 : t < 4096 := of_decide_eq_true h.2
  obtain ⟨k, hk, rfl⟩ := nI_of (x := t) (Int32.not_lt.mpr h1)
  refine ⟨k, ?_, rfl⟩
  exact (nI_ltI (b := 4096) hk (by decide)).mp h2
def isBb (t : Int32) : Bool := decide (0 ≤ t) && decide (t < 8)
theorem isBb_lt {t : Int32} (h : t < 0) : isBb t = false := by
  unfold isBb
  rw [show decide (0 ≤ t) = false from decide_eq_false (Int32.not_le.mpr h)]
  rfl
theorem isBb_ge {t : Int32} (h : nI 8 ≤ t) : isBb t = false := by
  unfold isBb
  rw [show decide (t < 8) = false from decide_eq_false (Int32.not_lt.mpr h), Bool.and_false]
theorem isBb_in {t : Int32} (h : ¬ t < 0) (h2 : ¬ nI 8 ≤ t) : isBb t = true := by
  unfold isBb
  rw [show decide (0 ≤ t) = true from decide_eq_true (Int32.not_lt.mp h), show decide (t < 8) = true from decide_eq_true (Int32.not_le.mp h2)]
  rfl
theorem isBb_ex {t : Int32} (h : isBb t = true) : ∃ k : Nat, k < 8 ∧ t = nI k := by
  unfold isBb at h
  rw [Bool.and_eq_true] at h
  have h1 : (0 : Int32) ≤ t := of_decide_eq_true h.1
  have h2 : t < 8 := of_decide_eq_true h.2
  obtain ⟨k, hk, rfl⟩ := nI_of (x := t) (Int32.not_lt.mpr h1)
  refine ⟨k, ?_, rfl⟩
  exact (nI_ltI (b := 8) hk (by decide)).mp h2
/-! counting -/
def cnt (p : Nat → Bool) : Nat → Nat
  | 0 => 0
  | n + 1 => cnt p n + (if p n = true then 1 else 0)
theorem cnt_le (p : Nat → Bool) : ∀ n, cnt p n ≤ n
  | 0 => Nat.le_refl _
  | n + 1 => by
    have := cnt_le p n
    unfold cnt
    split <;> omega
theorem cnt_t {p : Nat → Bool} {n : Nat} (h : p n = true) : cnt p (n + 1) = cnt p n + 1 := by
  show cnt p n + _ = _
  rw [if_pos h]
theorem cnt_f {p : Nat → Bool} {n : Nat} (h : p n = false) : cnt p (n + 1) = cnt p n := by
  show cnt p n + _ = _
  rw [if_neg (by rw [h]; decide)]
  rfl
theorem cnt_mono (p : Nat → Bool) {a b : Nat} (h : a ≤ b) : cnt p a ≤ cnt p b := by
  induction b with
  | zero => rw [Nat.le_zero.mp h]; exact Nat.le_refl _
  | succ b ih =>
    rcases Nat.lt_or_ge b a with q | q
    · rw [show a = b + 1 by omega]; exact Nat.le_refl _
    · exact Nat.le_trans (ih q) (Nat.le_add_right _ _)
theorem cnt_lt (p : Nat → Bool) {a b : Nat} (h : a < b) (ha : p a = true) : cnt p a < cnt p b := by
  have h1 := cnt_t ha
  have h2 := cnt_mono p (show a + 1 ≤ b from h)
  omega
theorem cnt_congr {p q : Nat → Bool} {n : Nat} (h : ∀ j, j < n → p j = q j) : cnt p n = cnt q n := by
  induction n with
  | zero => rfl
  | succ n ih =>
    show cnt p n + _ = cnt q n + _
    rw [ih (fun j hj => h j (by omega)), h n (by omega)]
theorem cnt_add (p : Nat → Bool) (a b : Nat) : cnt p (a + b) = cnt p a + cnt (fun j => p (a + j)) b := by
  induction b with
  | zero => rfl
  | succ b ih =>
    show cnt p (a + b) + (if p (a + b) = true then 1 else 0) = cnt p a + (cnt (fun j => p (a + j)) b + (if p (a + b) = true then 1 else 0))
    rw [ih]
    omega
theorem cnt_0 {p : Nat → Bool} {n : Nat} : cnt p n = 0 ↔ ∀ j, j < n → p j = false := by
  induction n with
  | zero => exact ⟨fun _ j h => by omega, fun _ => rfl⟩
  | succ n ih =>
    constructor
    · intro h j hj
      cases hp : p n with
      | true => rw [cnt_t hp] at h; omega
      | false =>
        rw [cnt_f hp] at h
        rcases Nat.lt_or_ge j n with q | q
        · exact ih.mp h j q
        · rw [show j = n by omega]; exact hp
    · intro h
      rw [cnt_f (h n (by omega))]
      exact ih.mpr (fun j hj => h j (by omega))
/-- number i of those below n that have p; -1 -/
def Nth (p : Nat → Bool) (n : Nat) (i r : Int32) : Prop := (∃ k, k < n ∧ p k = true ∧ nI (cnt p k) = i ∧ r = nI k) ∨ ((∀ k, k < n → p k = true → ¬ nI (cnt p k) = i) ∧ r = -1)
theorem Nth.one {p : Nat → Bool} {n : Nat} (hn : n < 2 ^ 31) {i r r' : Int32} (h : Nth p n i r) (h' : Nth p n i r') : r = r' := by
  rcases h with ⟨k, hk, hp, hc, rfl⟩ | ⟨h, rfl⟩
  · rcases h' with ⟨k', hk', hp', hc', rfl⟩ | ⟨h', rfl⟩
    · have e : cnt p k = cnt p k' := (nI_eq (by have := cnt_le p k; omega) (by have := cnt_le p k'; omega)).mp (hc.trans hc'.symm)
      rcases Nat.lt_trichotomy k k' with q | q | q
      · have := cnt_lt p q hp; omega
      · rw [q]
      · have := cnt_lt p q hp'; omega
    · exact absurd hc (h' k hk hp)
  · rcases h' with ⟨k', hk', hp', hc', rfl⟩ | ⟨h', rfl⟩
    · exact absurd hc' (h k' hk' hp')
    · rfl
theorem Nth.congr {p q : Nat → Bool} {n : Nat} (e : ∀ j, j < n → p j = q j) {i r : Int32} (h : Nth p n i r) : Nth q n i r := by
  rcases h with ⟨k, hk, hp, hc, rfl⟩ | ⟨h, rfl⟩
  · exact Or.inl ⟨k, hk, by rw [← e k hk]; exact hp, by rw [← cnt_congr (fun j hj => e j (by omega))]; exact hc, rfl⟩
  · exact Or.inr ⟨fun k hk hp hc => h k hk (by rw [e k hk]; exact hp) (by rw [cnt_congr (fun j hj => e j (by omega))]; exact hc), rfl⟩
/-- single keys with two triples or more -/
def crowd (p : Nat → Bool) (k : Nat) : Bool := decide (12 ≤ k % 16) && decide (2 ≤ cnt (fun o => p (16 * k + o)) 16)
theorem crowd_congr {p q : Nat → Bool} {k : Nat} (hk : k < 256) (h : ∀ t, t < 4096 → p t = q t) : crowd p k = crowd q k := by
  unfold crowd
  rw [cnt_congr (p := fun o => p (16 * k + o)) (q := fun o => q (16 * k + o)) (fun j hj => h _ (by omega))]
/-- points renamed -/
def rn (x p o : Nat) : Nat := if x = p then o else x
def rnT (t p o : Nat) : Nat := 256 * rn (t / 256) p o + 16 * rn (t / 16 % 16) p o + rn (t % 16) p o
theorem rn_y {x p o : Nat} (h : x = p) : rn x p o = o := if_pos h
theorem rn_n {x p o : Nat} (h : ¬ x = p) : rn x p o = x := if_neg h
theorem rn_lt {x p o n : Nat} (h : x < n) (ho : o < n) : rn x p o < n := by unfold rn; split <;> assumption
theorem rnT_lt {t p o : Nat} (h : t < 4096) (ho : o < 16) : rnT t p o < 4096 := by
  have h1 := rn_lt (x := t / 256) (p := p) (n := 16) (by omega) ho
  have h2 := rn_lt (x := t / 16 % 16) (p := p) (n := 16) (by omega) ho
  have h3 := rn_lt (x := t % 16) (p := p) (n := 16) (by omega) ho
  unfold rnT
  omega
def pointIn (t q : Nat) : Prop := t / 256 = q ∨ t / 16 % 16 = q ∨ t % 16 = q
theorem crowd_no1 {p : Nat → Bool} {k : Nat} (h : k % 16 < 12) : crowd p k = false := by
  unfold crowd
  rw [show decide (12 ≤ k % 16) = false from decide_eq_false (by omega), Bool.false_and]
theorem crowd_no2 {p : Nat → Bool} {k i : Nat} (hi : i = 16) (h : cnt (fun o => p (16 * k + o)) i < 2) : crowd p k = false := by
  subst hi
  unfold crowd
  rw [show decide (2 ≤ cnt (fun o => p (16 * k + o)) 16) = false from decide_eq_false (by omega), Bool.and_false]
theorem crowd_yes {p : Nat → Bool} {k i : Nat} (hi : i = 16) (h1 : 12 ≤ k % 16) (h : 2 ≤ cnt (fun o => p (16 * k + o)) i) : crowd p k = true := by
  subst hi
  unfold crowd
  rw [show decide (12 ≤ k % 16) = true from decide_eq_true h1, show decide (2 ≤ cnt (fun o => p (16 * k + o)) 16) = true from decide_eq_true h]
  rfl

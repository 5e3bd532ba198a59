/-! 25b: list and patch of the class, exactly: bits of a long counted (the walks are laid by wip/gen/ext30.py) -/
/-! 29: counting the bits of a long (for list and patch) -/
def msk (m : Nat) : Nat → Nat
  | 0 => 0
  | k + 1 => 256 * msk m k + m
def mp (f : Nat → Nat) : Nat → Nat → Nat
  | 0, _ => 0
  | k + 1, x => 256 * mp f k (x / 256) + f (x % 256)
def be1 (d : Nat) : Nat := d - (d / 2 &&& 85)
def be2 (d : Nat) : Nat := (d &&& 51) + (d / 4 &&& 51)
def be3 (d : Nat) : Nat := (d + d / 16) % 16
theorem and_split (y d M m : Nat) (hd : d < 256) (hm : m < 256) : (256 * y + d) &&& (256 * M + m) = 256 * (y &&& M) + (d &&& m) := by
  have h1 := Nat.and_div_two_pow (a := 256 * y + d) (b := 256 * M + m) (n := 8)
  have h2 := Nat.and_mod_two_pow (a := 256 * y + d) (b := 256 * M + m) (n := 8)
  rw [show (256 * y + d) / 2 ^ 8 = y by omega, show (256 * M + m) / 2 ^ 8 = M by omega] at h1
  rw [show (256 * y + d) % 2 ^ 8 = d by omega, show (256 * M + m) % 2 ^ 8 = m by omega] at h2
  omega
theorem be1_d : ∀ d, d < 256 → ∀ z, z < 2 → (128 * z + d / 2) &&& 85 = d / 2 &&& 85 := by decide +kernel
theorem be2_d : ∀ d, d < 256 → ∀ z, z < 4 → (64 * z + d / 4) &&& 51 = d / 4 &&& 51 := by decide +kernel
theorem step1 : ∀ k x, x < 256 ^ k → x - (x / 2 &&& msk 85 k) = mp be1 k x := by
  intro k
  induction k with
  | zero => intro x hx; have : x = 0 := by simpa using hx
            subst this; rfl
  | succ k ih =>
    intro x hx
    have hy : x / 256 < 256 ^ k := by rw [Nat.pow_succ] at hx; omega
    have h := ih (x / 256) hy
    have hd : x % 256 < 256 := Nat.mod_lt _ (by decide)
    have e : x / 2 = 256 * (x / 256 / 2) + (128 * (x / 256 % 2) + x % 256 / 2) := by omega
    show x - (x / 2 &&& (256 * msk 85 k + 85)) = 256 * mp be1 k (x / 256) + be1 (x % 256)
    rw [e, and_split _ _ _ _ (by omega) (by decide), be1_d _ hd _ (Nat.mod_lt _ (by decide)), ← h]
    have a1 : (x / 256 / 2 &&& msk 85 k) ≤ x / 256 / 2 := Nat.and_le_left
    have a2 : (x % 256 / 2 &&& 85) ≤ x % 256 / 2 := Nat.and_le_left
    unfold be1
    omega
theorem step2 : ∀ k x, x < 256 ^ k → (x &&& msk 51 k) + (x / 4 &&& msk 51 k) = mp be2 k x := by
  intro k
  induction k with
  | zero => intro x hx; have : x = 0 := by simpa using hx
            subst this; rfl
  | succ k ih =>
    intro x hx
    have hy : x / 256 < 256 ^ k := by rw [Nat.pow_succ] at hx; omega
    have h := ih (x / 256) hy
    have hd : x % 256 < 256 := Nat.mod_lt _ (by decide)
    have e : x / 4 = 256 * (x / 256 / 4) + (64 * (x / 256 % 4) + x % 256 / 4) := by omega
    have e0 : x = 256 * (x / 256) + x % 256 := by omega
    have h1 : x &&& (256 * msk 51 k + 51) = 256 * (x / 256 &&& msk 51 k) + (x % 256 &&& 51) := by
      have := and_split (x / 256) (x % 256) (msk 51 k) 51 hd (by decide)
      rw [← e0] at this
      exact this
    show (x &&& (256 * msk 51 k + 51)) + (x / 4 &&& (256 * msk 51 k + 51)) = 256 * mp be2 k (x / 256) + be2 (x % 256)
    rw [h1, e, and_split _ _ _ _ (by omega) (by decide), be2_d _ hd _ (Nat.mod_lt _ (by decide)), ← h]
    unfold be2
    omega
theorem mp_lt {f : Nat → Nat} (hf : ∀ d, d < 256 → f d < 256) : ∀ k x, mp f k x < 256 ^ k := by
  intro k
  induction k with
  | zero => intro x; exact Nat.one_pos
  | succ k ih =>
    intro x
    have h1 := ih (x / 256)
    have h2 := hf (x % 256) (Nat.mod_lt _ (by decide))
    show 256 * mp f k (x / 256) + f (x % 256) < 256 ^ (k + 1)
    rw [Nat.pow_succ]
    omega
theorem mp_mp {f h : Nat → Nat} (hf : ∀ d, d < 256 → f d < 256) : ∀ k x, mp h k (mp f k x) = mp (fun d => h (f d)) k x := by
  intro k
  induction k with
  | zero => intro x; rfl
  | succ k ih =>
    intro x
    have h2 := hf (x % 256) (Nat.mod_lt _ (by decide))
    show 256 * mp h k ((256 * mp f k (x / 256) + f (x % 256)) / 256) + h ((256 * mp f k (x / 256) + f (x % 256)) % 256) = 256 * mp (fun d => h (f d)) k (x / 256) + h (f (x % 256))
    rw [show (256 * mp f k (x / 256) + f (x % 256)) / 256 = mp f k (x / 256) by omega, show (256 * mp f k (x / 256) + f (x % 256)) % 256 = f (x % 256) by omega, ih]
theorem and15 (n : Nat) : n &&& 15 = n % 16 := Nat.and_two_pow_sub_one_eq_mod n 4
theorem step3 {f : Nat → Nat} (hf : ∀ d, d < 256 → f d % 16 ≤ 4 ∧ f d / 16 ≤ 4) : ∀ k x, (mp f k x + mp f k x / 16) &&& msk 15 k = mp (fun d => be3 (f d)) k x := by
  intro k
  induction k with
  | zero => intro x; show (0 + 0 / 16) &&& 0 = 0; decide
  | succ k ih =>
    intro x
    have h := ih (x / 256)
    obtain ⟨h1, h2⟩ := hf (x % 256) (Nat.mod_lt _ (by decide))
    have h3 : mp f k (x / 256) % 16 ≤ 4 := by
      cases k with
      | zero => show 0 % 16 ≤ 4; decide
      | succ k =>
        have := (hf (x / 256 % 256) (Nat.mod_lt _ (by decide))).1
        show (256 * mp f k (x / 256 / 256) + f (x / 256 % 256)) % 16 ≤ 4
        omega
    generalize hy : mp f k (x / 256) = y at h h3
    generalize hd : f (x % 256) = d at h1 h2
    show (256 * mp f k (x / 256) + f (x % 256) + (256 * mp f k (x / 256) + f (x % 256)) / 16) &&& (256 * msk 15 k + 15) = 256 * mp (fun d => be3 (f d)) k (x / 256) + be3 (f (x % 256))
    rw [hy, hd, show 256 * y + d + (256 * y + d) / 16 = 256 * (y + y / 16) + (d + 16 * (y % 16) + d / 16) by omega, and_split _ _ _ _ (by omega) (by decide), h, and15]
    unfold be3
    omega

def bpc (d : Nat) : Nat := be3 (be2 (be1 d))
theorem bpc_n : ∀ d, d < 256 → be2 (be1 d) % 16 ≤ 4 ∧ be2 (be1 d) / 16 ≤ 4 := by decide +kernel
theorem be1_lt : ∀ d, d < 256 → be1 d < 256 := by decide +kernel
theorem be2_lt : ∀ d, d < 256 → be2 d < 256 := by decide +kernel
theorem bpc_8 : ∀ d, d < 256 → bpc d ≤ 8 := by decide +kernel
theorem bpc_cnt : ∀ d, d < 256 → cnt (fun j => d.testBit j) 8 = bpc d := by decide +kernel
/-- the three steps over the bytes -/
theorem swar (k x : Nat) (hx : x < 256 ^ k) :
    (((x - (x / 2 &&& msk 85 k)) &&& msk 51 k) + ((x - (x / 2 &&& msk 85 k)) / 4 &&& msk 51 k) + (((x - (x / 2 &&& msk 85 k)) &&& msk 51 k) + ((x - (x / 2 &&& msk 85 k)) / 4 &&& msk 51 k)) / 16) &&& msk 15 k = mp bpc k x := by
  rw [step1 k x hx, step2 k _ (mp_lt be1_lt k x), mp_mp be1_lt k x, step3 bpc_n k x]
  rfl
def sm : Nat → Nat → Nat
  | 0, _ => 0
  | k + 1, x => sm k (x / 256) + bpc (x % 256)
theorem sm_cnt : ∀ k x, cnt (fun j => x.testBit j) (8 * k) = sm k x := by
  intro k
  induction k with
  | zero => intro x; rfl
  | succ k ih =>
    intro x
    have hd : x % 256 < 256 := Nat.mod_lt _ (by decide)
    have e := cnt_add (fun j => x.testBit j) 8 (8 * k)
    have e1 : cnt (fun j => x.testBit j) 8 = bpc (x % 256) := by
      rw [← bpc_cnt _ hd]
      refine cnt_congr (fun j hj => ?_)
      show x.testBit j = (x % 2 ^ 8).testBit j
      rw [Nat.testBit_mod_two_pow]
      simp [hj]
    have e2 : cnt (fun j => x.testBit (8 + j)) (8 * k) = sm k (x / 256) := by
      rw [← ih (x / 256)]
      refine cnt_congr (fun j hj => ?_)
      show x.testBit (8 + j) = (x / 2 ^ 8).testBit j
      rw [Nat.testBit_div_two_pow, Nat.add_comm]
    rw [show 8 * (k + 1) = 8 + 8 * k by omega, e, e1, e2]
    show _ = sm k (x / 256) + bpc (x % 256)
    omega
theorem fold4 (a0 a1 a2 a3 : Nat) (h0 : a0 < 8192) (h1 : a1 < 8192) (h2 : a2 < 8192) (h3 : a3 < 8192) : (65536 * (65536 * (65536 * a3 + a2) + a1) + a0 + (65536 * (65536 * a3 + a2) + a1) + (65536 * (65536 * (65536 * a3 + a2) + a1) + a0 + (65536 * (65536 * a3 + a2) + a1)) / 4294967296) % 128 = (a0 + a1 + a2 + a3) % 128 := by
  have e4 : (65536 * (65536 * (65536 * a3 + a2) + a1) + a0 + (65536 * (65536 * a3 + a2) + a1)) / 4294967296 = 65536 * a3 + (a2 + a3) := by omega
  rw [e4]
  omega
/-- the last three additions -/
theorem swar_end (x : Nat) : mp bpc 8 x < 2 ^ 61 ∧
    ((mp bpc 8 x + mp bpc 8 x / 256) + (mp bpc 8 x + mp bpc 8 x / 256) / 65536 + ((mp bpc 8 x + mp bpc 8 x / 256) + (mp bpc 8 x + mp bpc 8 x / 256) / 65536) / 4294967296) % 128 = sm 8 x ∧ sm 8 x ≤ 64 := by
  simp only [mp, sm]
  have b0 := bpc_8 (x % 256) (Nat.mod_lt _ (by decide))
  have b1 := bpc_8 (x / 256 % 256) (Nat.mod_lt _ (by decide))
  have b2 := bpc_8 (x / 256 / 256 % 256) (Nat.mod_lt _ (by decide))
  have b3 := bpc_8 (x / 256 / 256 / 256 % 256) (Nat.mod_lt _ (by decide))
  have b4 := bpc_8 (x / 256 / 256 / 256 / 256 % 256) (Nat.mod_lt _ (by decide))
  have b5 := bpc_8 (x / 256 / 256 / 256 / 256 / 256 % 256) (Nat.mod_lt _ (by decide))
  have b6 := bpc_8 (x / 256 / 256 / 256 / 256 / 256 / 256 % 256) (Nat.mod_lt _ (by decide))
  have b7 := bpc_8 (x / 256 / 256 / 256 / 256 / 256 / 256 / 256 % 256) (Nat.mod_lt _ (by decide))
  generalize bpc (x % 256) = p0 at *
  generalize bpc (x / 256 % 256) = p1 at *
  generalize bpc (x / 256 / 256 % 256) = p2 at *
  generalize bpc (x / 256 / 256 / 256 % 256) = p3 at *
  generalize bpc (x / 256 / 256 / 256 / 256 % 256) = p4 at *
  generalize bpc (x / 256 / 256 / 256 / 256 / 256 % 256) = p5 at *
  generalize bpc (x / 256 / 256 / 256 / 256 / 256 / 256 % 256) = p6 at *
  generalize bpc (x / 256 / 256 / 256 / 256 / 256 / 256 / 256 % 256) = p7 at *
  clear x
  have e1 : (256 * (256 * (256 * (256 * (256 * (256 * (256 * (256 * 0 + p7) + p6) + p5) + p4) + p3) + p2) + p1) + p0) / 256 = 256 * (256 * (256 * (256 * (256 * (256 * p7 + p6) + p5) + p4) + p3) + p2) + p1 := by omega
  rw [e1]
  refine ⟨by omega, ?_, by omega⟩
  have e2 : 256 * (256 * (256 * (256 * (256 * (256 * (256 * (256 * 0 + p7) + p6) + p5) + p4) + p3) + p2) + p1) + p0 + (256 * (256 * (256 * (256 * (256 * (256 * p7 + p6) + p5) + p4) + p3) + p2) + p1) = 65536 * (65536 * (65536 * (256 * p7 + (p6 + p7)) + (256 * (p5 + p6) + (p4 + p5))) + (256 * (p3 + p4) + (p2 + p3))) + (256 * (p1 + p2) + (p0 + p1)) := by omega
  rw [e2]
  have e3 : (65536 * (65536 * (65536 * (256 * p7 + (p6 + p7)) + (256 * (p5 + p6) + (p4 + p5))) + (256 * (p3 + p4) + (p2 + p3))) + (256 * (p1 + p2) + (p0 + p1))) / 65536 = 65536 * (65536 * (256 * p7 + (p6 + p7)) + (256 * (p5 + p6) + (p4 + p5))) + (256 * (p3 + p4) + (p2 + p3)) := by omega
  rw [e3]
  rw [fold4 _ _ _ _ (by omega) (by omega) (by omega) (by omega)]
  omega
/-! a long's operations as numbers; the bits of a long (wb_shr as kit/laws/BITS has it) -/
theorem wb_shr {n k : Nat} (hn : n < 2 ^ 64) (hk : k < 64) : ((lN n).toUInt64 >>> ((nI k).toInt64.toUInt64 &&& Int64.toUInt64 63)).toInt64 = lN (n / 2 ^ k) := by
  rw [wb_cu k hk]
  apply wb_inj
  apply BitVec.eq_of_toNat_eq
  show ((lN n).toUInt64 >>> UInt64.ofNat k).toNat = (BitVec.ofNat 64 _).toNat
  have h1 : (UInt64.ofNat k).toNat = k := by
    show (BitVec.ofNat 64 k).toNat = k
    rw [BitVec.toNat_ofNat, Nat.mod_eq_of_lt (by omega)]
  have h2 : (lN n).toUInt64.toNat = n := wb_tn hn
  rw [UInt64.toNat_shiftRight, h1, h2, Nat.mod_eq_of_lt hk, Nat.shiftRight_eq_div_pow, BitVec.toNat_ofNat, Nat.mod_eq_of_lt (Nat.lt_of_le_of_lt (Nat.div_le_self _ _) hn)]
theorem lN_subE {a b : Nat} (ha : a < 2 ^ 64) (h : b ≤ a) : lN a - lN b = lN (a - b) := by
  apply wb_inj
  rw [Int64.toBitVec_sub, wb_tb, wb_tb, wb_tb]
  apply BitVec.eq_of_toNat_eq
  rw [BitVec.toNat_sub, BitVec.toNat_ofNat, BitVec.toNat_ofNat, BitVec.toNat_ofNat, Nat.mod_eq_of_lt ha, Nat.mod_eq_of_lt (Nat.lt_of_le_of_lt h ha), Nat.mod_eq_of_lt (show a - b < 2 ^ 64 by omega)]
  omega
theorem lN_addE (a b : Nat) : lN a + lN b = lN (a + b) := by
  apply wb_inj
  rw [Int64.toBitVec_add, wb_tb, wb_tb, wb_tb]
  apply BitVec.eq_of_toNat_eq
  rw [BitVec.toNat_add, BitVec.toNat_ofNat, BitVec.toNat_ofNat, BitVec.toNat_ofNat, ← Nat.add_mod]
theorem lN_127 (n : Nat) : (lN n).toInt32 &&& nI 127 = nI (n % 128) := by
  apply Int32.toBitVec_inj.mp
  rw [Int32.toBitVec_and]
  apply BitVec.eq_of_toNat_eq
  rw [BitVec.toNat_and, show (nI 127).toBitVec.toNat = 127 from by decide +kernel, Nat.and_two_pow_sub_one_eq_mod _ 7]
  show ((BitVec.ofNat 64 n).signExtend 32).toNat % 128 = (BitVec.ofNat 32 (n % 128)).toNat
  rw [BitVec.signExtend_eq_setWidth_of_le _ (by decide), BitVec.toNat_setWidth, BitVec.toNat_ofNat, BitVec.toNat_ofNat]
  omega
/-- bits of a number and of the long -/
theorem lN_testBit {n j : Nat} (hn : n < 2 ^ 64) : (lN n).toBitVec.getLsbD j = n.testBit j := by
  rw [wb_tb]
  show (BitVec.ofNat 64 n).getLsbD j = _
  rw [BitVec.getLsbD_ofNat]
  by_cases hj : j < 64
  · simp [hj]
  · rw [Nat.testBit_lt_two_pow (Nat.lt_of_lt_of_le hn (Nat.pow_le_pow_right (by decide) (by omega)))]
    simp
theorem lN_and (a b : Nat) : lN a &&& lN b = lN (a &&& b) := by
  apply wb_inj
  rw [Int64.toBitVec_and, wb_tb, wb_tb, wb_tb]
  apply BitVec.eq_of_toNat_eq
  rw [BitVec.toNat_and, BitVec.toNat_ofNat, BitVec.toNat_ofNat, BitVec.toNat_ofNat, Nat.and_mod_two_pow]
theorem bc_85 : (6148914691236517205 : Int64) = lN (msk 85 8) := by decide +kernel
theorem bc_51 : (3689348814741910323 : Int64) = lN (msk 51 8) := by decide +kernel
theorem bc_15 : (1085102592571150095 : Int64) = lN (msk 15 8) := by decide +kernel
theorem p64 : 256 ^ 8 = 2 ^ 64 := by decide
theorem bc_1 {n x1 : Nat} (hn : n < 2 ^ 64) (h : x1 = n - (n / 2 &&& msk 85 8)) : (lN n) - (((lN n).toUInt64 >>> ((nI 1).toInt64.toUInt64 &&& Int64.toUInt64 63)).toInt64 &&& (6148914691236517205 : Int64)) = lN x1 := by
  have h2 : (n / 2 &&& msk 85 8) ≤ n := Nat.le_trans Nat.and_le_left (Nat.div_le_self _ _)
  rw [wb_shr hn (by decide), bc_85, lN_and, show n / 2 ^ 1 = n / 2 from rfl, lN_subE hn h2, h]
theorem bc_2 {x1 x2 : Nat} (h1 : x1 < 2 ^ 64) (h : x2 = (x1 &&& msk 51 8) + (x1 / 4 &&& msk 51 8)) : ((lN x1) &&& (3689348814741910323 : Int64)) + (((lN x1).toUInt64 >>> ((nI 2).toInt64.toUInt64 &&& Int64.toUInt64 63)).toInt64 &&& (3689348814741910323 : Int64)) = lN x2 := by
  rw [wb_shr h1 (by decide), bc_51, lN_and, lN_and, lN_addE, h]
theorem bc_3 {x2 x3 : Nat} (h2 : x2 < 2 ^ 64) (h : x3 = x2 + x2 / 16 &&& msk 15 8) : ((lN x2) + ((lN x2).toUInt64 >>> ((nI 4).toInt64.toUInt64 &&& Int64.toUInt64 63)).toInt64) &&& (1085102592571150095 : Int64) = lN x3 := by
  rw [wb_shr h2 (by decide), bc_15, lN_addE, lN_and, h]
theorem bc_s {x y k d : Nat} (hx : x < 2 ^ 64) (hk : k < 64) (hd : 2 ^ k = d) (h : y = x + x / d) : (lN x) + ((lN x).toUInt64 >>> ((nI k).toInt64.toUInt64 &&& Int64.toUInt64 63)).toInt64 = lN y := by
  rw [wb_shr hx hk, lN_addE, h, hd]
theorem bc_all {n x1 x2 x3 x4 x5 x6 : Nat} (hn : n < 2 ^ 64) (h1 : x1 = n - (n / 2 &&& msk 85 8)) (h2 : x2 = (x1 &&& msk 51 8) + (x1 / 4 &&& msk 51 8)) (h3 : x3 = x2 + x2 / 16 &&& msk 15 8)
    (h4 : x4 = x3 + x3 / 256) (h5 : x5 = x4 + x4 / 65536) (h6 : x6 = x5 + x5 / 4294967296) : x1 < 2 ^ 64 ∧ x2 < 2 ^ 64 ∧ x3 < 2 ^ 61 ∧ (lN x6).toInt32 &&& nI 127 = nI (cnt (fun j => (lN n).toBitVec.getLsbD j) 64) := by
  have hn8 : n < 256 ^ 8 := by rw [p64]; exact hn
  have e1 : x1 = mp be1 8 n := by rw [h1]; exact step1 8 n hn8
  have b1 : x1 < 256 ^ 8 := by rw [e1]; exact mp_lt be1_lt 8 n
  have e2 : x2 = mp be2 8 x1 := by rw [h2]; exact step2 8 x1 b1
  have b2 : x2 < 256 ^ 8 := by rw [e2]; exact mp_lt be2_lt 8 x1
  have e3 : x3 = mp bpc 8 n := by rw [h3, h2, h1]; exact swar 8 n hn8
  obtain ⟨g1, g2, g3⟩ := swar_end n
  rw [p64] at b1 b2
  rw [← e3] at g1 g2
  refine ⟨b1, b2, g1, ?_⟩
  rw [lN_127, h6, h5, h4, g2, ← sm_cnt 8 n]
  exact congrArg nI (cnt_congr (fun j _ => (lN_testBit hn).symm))
theorem neg_nthE {i : Int32} (h : i < 0) {n : Nat} (hn : n < 2 ^ 31) : ¬ nI n = i := fun e => by
  rw [← e] at h
  exact nI_pos hn h
theorem nth_dif {σ : SG} {m n : Nat} {f1 : Nat → Int64} {ix r : Int32} (h : ∀ j, j < 64 → f1 j = (sW σ m j) ^^^ (sW σ n j)) (hr : Nth (bt f1) 4096 ix r) : Nth (dif σ m n) 4096 ix r := by
  have e : ∀ t, t < 4096 → bt f1 t = dif σ m n t := by
    intro t ht
    unfold dif bt
    rw [h _ (by omega), w_xor]
    cases (sW σ m (t / 64)).toBitVec.getLsbD (t % 64) <;> cases (sW σ n (t / 64)).toBitVec.getLsbD (t % 64) <;> rfl
  have ec : ∀ k, k ≤ 4096 → cnt (dif σ m n) k = cnt (bt f1) k := fun k hk => cnt_congr (fun j hj => (e j (by omega)).symm)
  rcases hr with ⟨k, k1, k2, k3, k4⟩ | ⟨k1, k2⟩
  · exact Or.inl ⟨k, k1, by rw [← e k k1]; exact k2, by rw [ec k (by omega)]; exact k3, k4⟩
  · exact Or.inr ⟨fun k hk hp => by rw [ec k (by omega)]; exact k1 k hk (by rw [e k hk]; exact hp), k2⟩
set_option maxHeartbeats 4000000 in
set_option maxRecDepth 100000 in
/-- Long.bitCount -/
theorem c_J13_bitCount (l : Launch) (D : va_G) (g : Nat → ClassId) (H : Heap) (x : Int64) : Met l yJ13_bitCount_95d88 wsJ13_bitCount_95d88 ({ frames := 0, cells := 0, slots := 0, locals := 0 } : Room) (kPc D g [.long (x)] H) (kX (.int (nI (cnt (fun j => x.toBitVec.getLsbD j) 64))) H) 0 0 kN := by
  refine Met.ofW (cc := cJ13_bitCount_95d88) (maxL := 2) (ret := (some .int)) (by decide) rfl ?_
  intro p e s m args below meth c s₁ B hml hv
  obtain ⟨rfl, hH, hK⟩ := hv
  have hx := B.exec
  have hb := B.bytes
  have hr := B.returns
  have hts := atoms_spec (ws := wsJ13_bitCount_95d88) B.pre
  have hlocks := B.notSynchronized
  rw [hH]
  have hl := lv_entry ([.long (x)]) (n := 2) (Nat.le_of_ble_eq_true rfl)
  rw [lg_entry_eq]
  generalize (lg_sl ([.long (x)]) ++ List.replicate (2 - (lg_sl ([.long (x)])).length) Slot.unset).toArray = ls at hl ⊢
  have hl : lv_has ls 2 [(0, .long (x))] := hl
  have hown : s.vm.findClass RJ13 = some m.cls := findClass_of_methodNamed B.named
  obtain ⟨n, hn, rfl⟩ := wb_of x
  obtain ⟨x1, h1⟩ : ∃ y, y = n - (n / 2 &&& msk 85 8) := ⟨_, rfl⟩
  obtain ⟨x2, h2⟩ : ∃ y, y = (x1 &&& msk 51 8) + (x1 / 4 &&& msk 51 8) := ⟨_, rfl⟩
  obtain ⟨x3, h3⟩ : ∃ y, y = x2 + x2 / 16 &&& msk 15 8 := ⟨_, rfl⟩
  obtain ⟨x4, h4⟩ : ∃ y, y = x3 + x3 / 256 := ⟨_, rfl⟩
  obtain ⟨x5, h5⟩ : ∃ y, y = x4 + x4 / 65536 := ⟨_, rfl⟩
  obtain ⟨x6, h6⟩ : ∃ y, y = x5 + x5 / 4294967296 := ⟨_, rfl⟩
  obtain ⟨b1, b2, b3, hf⟩ := bc_all hn h1 h2 h3 h4 h5 h6
  have b4 : x4 < 2 ^ 62 := by omega
  have b5 : x5 < 2 ^ 63 := by omega
  refine lv_lload_n hx hb dJ13_bitCount_95d88_0 rfl (lv_at hl 0 rfl) ?_
  refine lv_lload_n hx hb dJ13_bitCount_95d88_1 rfl (lv_at hl 0 rfl) ?_
  refine lv_iconst (v := nI 1) hx hb dJ13_bitCount_95d88_2 (by decide +kernel) ?_
  refine lv_lushr (v := ((lN n).toUInt64 >>> ((nI 1).toInt64.toUInt64 &&& Int64.toUInt64 63)).toInt64) hx hb dJ13_bitCount_95d88_3 rfl ?_
  refine lv_ldc2 (v := (6148914691236517205)) hx hb hown (hts (.constantLong RJ13 314 (6148914691236517205)) (by decide +kernel)) dJ13_bitCount_95d88_4 ?_
  refine lv_land hx hb dJ13_bitCount_95d88_7 ?_
  refine lv_lsub hx hb dJ13_bitCount_95d88_8 ?_
  refine lv_topl (nm_r (show (lN n) - ((((lN n).toUInt64 >>> ((nI 1).toInt64.toUInt64 &&& Int64.toUInt64 63)).toInt64) &&& ((6148914691236517205))) = lN x1 from (bc_1 hn h1)) ?_)
  refine lv_lstore_n (lv' := [(0, .long (lN x1))]) hx hb dJ13_bitCount_95d88_9 rfl hl (by decide) rfl (fun ls hl => ?_)
  refine lv_lload_n hx hb dJ13_bitCount_95d88_10 rfl (lv_at hl 0 rfl) ?_
  refine lv_ldc2 (v := (3689348814741910323)) hx hb hown (hts (.constantLong RJ13 316 (3689348814741910323)) (by decide +kernel)) dJ13_bitCount_95d88_11 ?_
  refine lv_land hx hb dJ13_bitCount_95d88_14 ?_
  refine lv_lload_n hx hb dJ13_bitCount_95d88_15 rfl (lv_at hl 0 rfl) ?_
  refine lv_iconst (v := nI 2) hx hb dJ13_bitCount_95d88_16 (by decide +kernel) ?_
  refine lv_lushr (v := ((lN x1).toUInt64 >>> ((nI 2).toInt64.toUInt64 &&& Int64.toUInt64 63)).toInt64) hx hb dJ13_bitCount_95d88_17 rfl ?_
  refine lv_ldc2 (v := (3689348814741910323)) hx hb hown (hts (.constantLong RJ13 316 (3689348814741910323)) (by decide +kernel)) dJ13_bitCount_95d88_18 ?_
  refine lv_land hx hb dJ13_bitCount_95d88_21 ?_
  refine lv_ladd hx hb dJ13_bitCount_95d88_22 ?_
  refine lv_topl (nm_r (show ((lN x1) &&& ((3689348814741910323))) + ((((lN x1).toUInt64 >>> ((nI 2).toInt64.toUInt64 &&& Int64.toUInt64 63)).toInt64) &&& ((3689348814741910323))) = lN x2 from (bc_2 b1 h2)) ?_)
  refine lv_lstore_n (lv' := [(0, .long (lN x2))]) hx hb dJ13_bitCount_95d88_23 rfl hl (by decide) rfl (fun ls hl => ?_)
  refine lv_lload_n hx hb dJ13_bitCount_95d88_24 rfl (lv_at hl 0 rfl) ?_
  refine lv_lload_n hx hb dJ13_bitCount_95d88_25 rfl (lv_at hl 0 rfl) ?_
  refine lv_iconst (v := nI 4) hx hb dJ13_bitCount_95d88_26 (by decide +kernel) ?_
  refine lv_lushr (v := ((lN x2).toUInt64 >>> ((nI 4).toInt64.toUInt64 &&& Int64.toUInt64 63)).toInt64) hx hb dJ13_bitCount_95d88_27 rfl ?_
  refine lv_ladd hx hb dJ13_bitCount_95d88_28 ?_
  refine lv_ldc2 (v := (1085102592571150095)) hx hb hown (hts (.constantLong RJ13 318 (1085102592571150095)) (by decide +kernel)) dJ13_bitCount_95d88_29 ?_
  refine lv_land hx hb dJ13_bitCount_95d88_32 ?_
  refine lv_topl (nm_r (show ((lN x2) + (((lN x2).toUInt64 >>> ((nI 4).toInt64.toUInt64 &&& Int64.toUInt64 63)).toInt64)) &&& ((1085102592571150095)) = lN x3 from (bc_3 b2 h3)) ?_)
  refine lv_lstore_n (lv' := [(0, .long (lN x3))]) hx hb dJ13_bitCount_95d88_33 rfl hl (by decide) rfl (fun ls hl => ?_)
  refine lv_lload_n hx hb dJ13_bitCount_95d88_34 rfl (lv_at hl 0 rfl) ?_
  refine lv_lload_n hx hb dJ13_bitCount_95d88_35 rfl (lv_at hl 0 rfl) ?_
  refine lv_bipush (v := nI 8) hx hb dJ13_bitCount_95d88_36 (by decide +kernel) ?_
  refine lv_lushr (v := ((lN x3).toUInt64 >>> ((nI 8).toInt64.toUInt64 &&& Int64.toUInt64 63)).toInt64) hx hb dJ13_bitCount_95d88_38 rfl ?_
  refine lv_ladd hx hb dJ13_bitCount_95d88_39 ?_
  refine lv_topl (nm_r (show (lN x3) + (((lN x3).toUInt64 >>> ((nI 8).toInt64.toUInt64 &&& Int64.toUInt64 63)).toInt64) = lN x4 from (bc_s (k := 8) (d := 256) (by omega) (by decide) rfl h4)) ?_)
  refine lv_lstore_n (lv' := [(0, .long (lN x4))]) hx hb dJ13_bitCount_95d88_40 rfl hl (by decide) rfl (fun ls hl => ?_)
  refine lv_lload_n hx hb dJ13_bitCount_95d88_41 rfl (lv_at hl 0 rfl) ?_
  refine lv_lload_n hx hb dJ13_bitCount_95d88_42 rfl (lv_at hl 0 rfl) ?_
  refine lv_bipush (v := nI 16) hx hb dJ13_bitCount_95d88_43 (by decide +kernel) ?_
  refine lv_lushr (v := ((lN x4).toUInt64 >>> ((nI 16).toInt64.toUInt64 &&& Int64.toUInt64 63)).toInt64) hx hb dJ13_bitCount_95d88_45 rfl ?_
  refine lv_ladd hx hb dJ13_bitCount_95d88_46 ?_
  refine lv_topl (nm_r (show (lN x4) + (((lN x4).toUInt64 >>> ((nI 16).toInt64.toUInt64 &&& Int64.toUInt64 63)).toInt64) = lN x5 from (bc_s (k := 16) (d := 65536) (by omega) (by decide) rfl h5)) ?_)
  refine lv_lstore_n (lv' := [(0, .long (lN x5))]) hx hb dJ13_bitCount_95d88_47 rfl hl (by decide) rfl (fun ls hl => ?_)
  refine lv_lload_n hx hb dJ13_bitCount_95d88_48 rfl (lv_at hl 0 rfl) ?_
  refine lv_lload_n hx hb dJ13_bitCount_95d88_49 rfl (lv_at hl 0 rfl) ?_
  refine lv_bipush (v := nI 32) hx hb dJ13_bitCount_95d88_50 (by decide +kernel) ?_
  refine lv_lushr (v := ((lN x5).toUInt64 >>> ((nI 32).toInt64.toUInt64 &&& Int64.toUInt64 63)).toInt64) hx hb dJ13_bitCount_95d88_52 rfl ?_
  refine lv_ladd hx hb dJ13_bitCount_95d88_53 ?_
  refine lv_topl (nm_r (show (lN x5) + (((lN x5).toUInt64 >>> ((nI 32).toInt64.toUInt64 &&& Int64.toUInt64 63)).toInt64) = lN x6 from (bc_s (k := 32) (d := 4294967296) (by omega) (by decide) rfl h6)) ?_)
  refine lv_lstore_n (lv' := [(0, .long (lN x6))]) hx hb dJ13_bitCount_95d88_54 rfl hl (by decide) rfl (fun ls hl => ?_)
  refine lv_lload_n hx hb dJ13_bitCount_95d88_55 rfl (lv_at hl 0 rfl) ?_
  refine lv_l2i (v := (lN x6).toInt32) hx hb dJ13_bitCount_95d88_56 rfl ?_
  refine lv_bipush (v := nI 127) hx hb dJ13_bitCount_95d88_57 (by decide +kernel) ?_
  refine lv_iand hx hb dJ13_bitCount_95d88_59 ?_
  exact r_iX hx hb hr (congrArg Value.int hf) dJ13_bitCount_95d88_60 hlocks
theorem c_J13_bitCount_f (l : Launch) (D : va_G) (g : Nat → ClassId) (H : Heap) (f : Nat → Int64) (i : Nat) : Met l yJ13_bitCount_95d88 wsJ13_bitCount_95d88 ({ frames := 0, cells := 0, slots := 0, locals := 0 } : Room) (kPc D g [.long (f i)] H) (kX (.int (nI (cnt (fun j => bt f (64 * i + j)) 64))) H) 0 0 kN := by
  rw [show cnt (fun j => bt f (64 * i + j)) 64 = cnt (fun j => (f i).toBitVec.getLsbD j) 64 from cnt_congr (fun j hj => bt_get f hj)]
  exact c_J13_bitCount l D g H (f i)
set_option maxHeartbeats 4000000 in
set_option maxRecDepth 100000 in
/-- tripleInWord -/
theorem c_X1_tripleInWord (l : Launch) (D : va_G) (g : Nat → ClassId) (H : Heap) (a w : Nat) (f : Nat → Int64) (ho : HA D H a (eO 1 [.ref w])) (hw : HA D H w (eL (g 2) 64 f)) (k : Nat) (hk : k < 64) (q0 : Nat) (hq0 : q0 < cnt (fun j => bt f (64 * k + j)) 64) : Met l yX1_tripleInWord wsX1_tripleInWord ({ frames := 2, cells := 0, slots := 0, locals := 41 } : Room) (kPc D g [.ref a, .int (nI k), .int (nI q0)] H) (kS (fun r => ∃ j, j < 64 ∧ bt f (64 * k + j) = true ∧ cnt (fun j => bt f (64 * k + j)) j = q0 ∧ r = nI (64 * k + j)) H) 0 0 kN := by
  refine Met.ofW (cc := cX1_tripleInWord) (maxL := 5) (ret := (some .int)) (by decide) rfl ?_
  intro p e s m args below meth c s₁ B hml hv
  obtain ⟨rfl, hH, hK⟩ := hv
  have hx := B.exec
  have hb := B.bytes
  have hr := B.returns
  have hts := atoms_spec (ws := wsX1_tripleInWord) B.pre
  have hown : s.vm.findClass RX1 = some m.cls := findClass_of_methodNamed B.named
  have hlocks := B.notSynchronized
  rw [hH]
  have hl := lv_entry ([.ref a, .int (nI k), .int (nI q0)]) (n := 5) (Nat.le_of_ble_eq_true rfl)
  rw [lg_entry_eq]
  generalize (lg_sl ([.ref a, .int (nI k), .int (nI q0)]) ++ List.replicate (5 - (lg_sl ([.ref a, .int (nI k), .int (nI q0)])).length) Slot.unset).toArray = ls at hl ⊢
  have hl : lv_has ls 5 [(0, .ref a), (1, .int (nI k)), (2, .int (nI q0))] := hl
  have h64 := cnt_le (fun j => bt f (64 * k + j)) 64
  refine lv_iload_n hx hb dX1_tripleInWord_0 rfl (lv_at hl 2 rfl) ?_
  refine lv_istore_n (lv' := [(3, .int (nI q0)), (0, .ref a), (1, .int (nI k)), (2, .int (nI q0))]) hx hb dX1_tripleInWord_1 rfl hl (by decide) rfl (fun ls hl => ?_)
  refine lv_bipush (v := nI 64) hx hb dX1_tripleInWord_2 (by decide +kernel) ?_
  refine lv_iload_n hx hb dX1_tripleInWord_4 rfl (lv_at hl 2 rfl) ?_
  refine lv_imul hx hb dX1_tripleInWord_5 ?_
  refine lv_topi (nm_r (show (nI 64) * (nI k) = nI (64 * (k)) from pk_mul _ _) ?_)
  refine lv_istore (lv' := [(4, .int (nI (64 * (k)))), (3, .int (nI q0)), (0, .ref a), (1, .int (nI k)), (2, .int (nI q0))]) hx hb dX1_tripleInWord_6 hl (by decide) rfl (fun ls hl => ?_)
  have loop : ∀ (n i : Nat) (y : Int32), 64 < i + n → i ≤ 64 → cnt (fun j => bt f (64 * k + j)) i ≤ q0 → y = nI (q0 - cnt (fun j => bt f (64 * k + j)) i) → ∀ ls, lv_has ls 5 [(4, .int (nI (64 * k + i))), (3, .int y), (0, .ref a), (1, .int (nI k)), (2, .int (nI q0))] → W p l e (headSpec wsX1_tripleInWord ({ frames := 2, cells := 0, slots := 0, locals := 41 } : Room)).room s m ([.ref a, .int (nI k), .int (nI q0)] : List Value).toArray below meth c H [] 0 0 (MQ below (kS (fun r => ∃ j, j < 64 ∧ bt f (64 * k + j) = true ∧ cnt (fun j => bt f (64 * k + j)) j = q0 ∧ r = nI (64 * k + j)) H) ([.ref a, .int (nI k), .int (nI q0)] : List Value).toArray s 0 0 kN) (F0 m 8 ls []) := by
    intro n
    induction n with
    | zero => intro i y h0 h1; omega
    | succ n ih =>
      intro i y hn hi hci hy ls hl
      subst hy
      refine lv_iload hx hb dX1_tripleInWord_8 (lv_at hl 0 rfl) ?_
      refine lv_bipush (v := nI 64) hx hb dX1_tripleInWord_10 (by decide +kernel) ?_
      refine lv_iload_n hx hb dX1_tripleInWord_12 rfl (lv_at hl 3 rfl) ?_
      refine lv_imul hx hb dX1_tripleInWord_13 ?_
      refine lv_topi (nm_r (show (nI 64) * (nI k) = nI (64 * (k)) from pk_mul _ _) ?_)
      refine lv_bipush (v := nI 64) hx hb dX1_tripleInWord_14 (by decide +kernel) ?_
      refine lv_iadd hx hb dX1_tripleInWord_16 ?_
      refine lv_topi (nm_r (show (nI (64 * (k))) + (nI 64) = nI (64 * (k) + 64) from nI_add _ _) ?_)
      refine n_icmp_ge (tgt := 45) hx hb dX1_tripleInWord_17 (by decide) (by omega) (by omega) (fun c_785 => ?_) (fun c_785 => ?_)
      · skip
        refine lv_iconst (v := (-1)) hx hb dX1_tripleInWord_45 (by decide +kernel) ?_
        exact r_iS hx hb hr (absurd hq0 (by rw [show i = 64 by omega] at hci; omega)) dX1_tripleInWord_46 hlocks
      · skip
        refine lv_aload_n hx hb dX1_tripleInWord_20 rfl (lv_at hl 2 rfl) ?_
        refine lv_iload hx hb dX1_tripleInWord_21 (lv_at hl 0 rfl) ?_
        refine k_callX (va_runV (As := [.int (nI (64 * k + i))]) (rest := []) ⟨hx, hb, hml, hown, hts⟩ (c_X1_has l D g H a w f ho hw (64 * k + i) (by omega)) (cwV 1 hts gX1_tripleInWord_X1_has rfl rfl rfl (by decide +kernel) ⟨Nat.le_of_ble_eq_true rfl, Nat.le_of_ble_eq_true rfl⟩) ⟨kPc_blind, k_recv hK ho rfl, fun U hU hW => kPc_at hK hU hW⟩ rfl rfl hl.1 rfl (lv_room (Nat.le_of_ble_eq_true rfl)) dX1_tripleInWord_23 ⟨Nat.le_of_ble_eq_true rfl, Nat.le_of_ble_eq_true rfl⟩) ?_
        refine z_if_eq (tgt := 39) hx hb dX1_tripleInWord_26 (by decide) (fun c_786 => ?_) (fun c_786 => ?_)
        · skip
          refine lv_iinc (v := nI (64 * k + i + 1)) (lv' := [(4, .int (nI (64 * k + i + 1))), (3, .int (nI (q0 - cnt (fun j => bt f (64 * k + j)) i))), (0, .ref a), (1, .int (nI k)), (2, .int (nI q0))]) hx hb dX1_tripleInWord_39 hl (k := 0) rfl (nI_add (64 * k + i) 1) (by decide) rfl (fun ls hl => ?_)
          refine lv_goto (tgt := 8) hx hb dX1_tripleInWord_42 (by decide) ?_
          have hcf := cnt_f (p := fun j => bt f (64 * k + j)) (n := i) c_786
          exact ih (i + 1) _ (by omega) (by omega) (by omega) (by rw [hcf]) ls (lv_sub hl [0, 1, 2, 3, 4] rfl)
        · skip
          refine lv_iload_n hx hb dX1_tripleInWord_29 rfl (lv_at hl 1 rfl) ?_
          refine n_if_ne (tgt := 36) hx hb dX1_tripleInWord_30 (by decide) (by omega) (fun c_787 => ?_) (fun c_787 => ?_)
          · skip
            have hct := cnt_t (p := fun j => bt f (64 * k + j)) (n := i) c_786
            refine lv_iinc (v := nI (q0 - cnt (fun j => bt f (64 * k + j)) (i + 1))) (lv' := [(3, .int (nI (q0 - cnt (fun j => bt f (64 * k + j)) (i + 1)))), (4, .int (nI (64 * k + i))), (0, .ref a), (1, .int (nI k)), (2, .int (nI q0))]) hx hb dX1_tripleInWord_36 hl (k := 1) rfl (by rw [show q0 - cnt (fun j => bt f (64 * k + j)) i = q0 - cnt (fun j => bt f (64 * k + j)) (i + 1) + 1 by omega]; exact pk_m1 _) (by decide) rfl (fun ls hl => ?_)
            refine lv_iinc (v := nI (64 * k + i + 1)) (lv' := [(4, .int (nI (64 * k + i + 1))), (3, .int (nI (q0 - cnt (fun j => bt f (64 * k + j)) (i + 1)))), (0, .ref a), (1, .int (nI k)), (2, .int (nI q0))]) hx hb dX1_tripleInWord_39 hl (k := 1) rfl (nI_add (64 * k + i) 1) (by decide) rfl (fun ls hl => ?_)
            refine lv_goto (tgt := 8) hx hb dX1_tripleInWord_42 (by decide) ?_
            exact ih (i + 1) _ (by omega) (by omega) (by omega) rfl ls (lv_sub hl [0, 1, 2, 3, 4] rfl)
          · skip
            refine lv_iload hx hb dX1_tripleInWord_33 (lv_at hl 0 rfl) ?_
            exact r_iS hx hb hr (⟨i, by omega, c_786, by have := c_787; omega, rfl⟩) dX1_tripleInWord_35 hlocks
  exact loop 65 0 _ (by omega) (by omega) (Nat.zero_le _) rfl ls (lv_sub hl [0, 1, 2, 3, 4] rfl)
set_option maxHeartbeats 4000000 in
set_option maxRecDepth 100000 in
/-- tripleAt, below 0 -/
theorem c_X1_tripleAt_n (l : Launch) (D : va_G) (g : Nat → ClassId) (H : Heap) (a w : Nat) (f : Nat → Int64) (ho : HA D H a (eO 1 [.ref w])) (hw : HA D H w (eL (g 2) 64 f)) (ix : Int32) (hix : ix < 0) : Met l yX1_tripleAt wsX1_tripleAt ({ frames := 3, cells := 0, slots := 0, locals := 65 } : Room) (kPc D g [.ref a, .int (ix)] H) (kS (Nth (bt f) 4096 ix) H) 0 0 kN := by
  refine Met.ofW (cc := cX1_tripleAt) (maxL := 5) (ret := (some .int)) (by decide) rfl ?_
  intro p e s m args below meth c s₁ B hml hv
  obtain ⟨rfl, hH, hK⟩ := hv
  have hx := B.exec
  have hb := B.bytes
  have hr := B.returns
  have hts := atoms_spec (ws := wsX1_tripleAt) B.pre
  have hown : s.vm.findClass RX1 = some m.cls := findClass_of_methodNamed B.named
  have hlocks := B.notSynchronized
  rw [hH]
  have hl := lv_entry ([.ref a, .int (ix)]) (n := 5) (Nat.le_of_ble_eq_true rfl)
  rw [lg_entry_eq]
  generalize (lg_sl ([.ref a, .int (ix)]) ++ List.replicate (5 - (lg_sl ([.ref a, .int (ix)])).length) Slot.unset).toArray = ls at hl ⊢
  have hl : lv_has ls 5 [(0, .ref a), (1, .int (ix))] := hl
  refine lv_iload_n hx hb dX1_tripleAt_0 rfl (lv_at hl 1 rfl) ?_
  refine lv_istore_n (lv' := [(2, .int (ix)), (0, .ref a), (1, .int (ix))]) hx hb dX1_tripleAt_1 rfl hl (by decide) rfl (fun ls hl => ?_)
  refine lv_iconst (v := nI 0) hx hb dX1_tripleAt_2 (by decide +kernel) ?_
  refine lv_istore_n (lv' := [(3, .int (nI 0)), (2, .int (ix)), (0, .ref a), (1, .int (ix))]) hx hb dX1_tripleAt_3 rfl hl (by decide) rfl (fun ls hl => ?_)
  refine lv_iload_n hx hb dX1_tripleAt_4 rfl (lv_at hl 0 rfl) ?_
  refine lv_bipush (v := nI 64) hx hb dX1_tripleAt_5 (by decide +kernel) ?_
  refine n_icmp_ge (tgt := 49) hx hb dX1_tripleAt_7 (by decide) (by omega) (by omega) (fun c_788 => ?_) (fun c_788 => ?_)
  · skip
    exact absurd c_788 (by decide)
  · skip
    refine lv_iload_n hx hb dX1_tripleAt_10 rfl (lv_at hl 1 rfl) ?_
    refine lv_if_lt (tgt := 49) hx hb dX1_tripleAt_11 (by decide) (fun c_789 => ?_) (fun c_789 => ?_)
    · skip
      refine lv_iconst (v := (-1)) hx hb dX1_tripleAt_49 (by decide +kernel) ?_
      exact r_iS hx hb hr (Or.inr ⟨fun k hk _ => neg_nthE hix (by have := cnt_le (bt f) k; omega), rfl⟩) dX1_tripleAt_50 hlocks
    · skip
      exact absurd hix c_789
set_option maxHeartbeats 4000000 in
set_option maxRecDepth 100000 in
/-- tripleAt -/
theorem c_X1_tripleAt_y (l : Launch) (D : va_G) (g : Nat → ClassId) (H : Heap) (a w : Nat) (f : Nat → Int64) (ho : HA D H a (eO 1 [.ref w])) (hw : HA D H w (eL (g 2) 64 f)) (q0 : Nat) (hc31 : q0 < 2 ^ 31) : Met l yX1_tripleAt wsX1_tripleAt ({ frames := 3, cells := 0, slots := 0, locals := 65 } : Room) (kPc D g [.ref a, .int (nI q0)] H) (kS (Nth (bt f) 4096 (nI q0)) H) 0 0 kN := by
  refine Met.ofW (cc := cX1_tripleAt) (maxL := 5) (ret := (some .int)) (by decide) rfl ?_
  intro p e s m args below meth c s₁ B hml hv
  obtain ⟨rfl, hH, hK⟩ := hv
  have hx := B.exec
  have hb := B.bytes
  have hr := B.returns
  have hts := atoms_spec (ws := wsX1_tripleAt) B.pre
  have hown : s.vm.findClass RX1 = some m.cls := findClass_of_methodNamed B.named
  have hlocks := B.notSynchronized
  rw [hH]
  have hl := lv_entry ([.ref a, .int (nI q0)]) (n := 5) (Nat.le_of_ble_eq_true rfl)
  rw [lg_entry_eq]
  generalize (lg_sl ([.ref a, .int (nI q0)]) ++ List.replicate (5 - (lg_sl ([.ref a, .int (nI q0)])).length) Slot.unset).toArray = ls at hl ⊢
  have hl : lv_has ls 5 [(0, .ref a), (1, .int (nI q0))] := hl
  refine lv_iload_n hx hb dX1_tripleAt_0 rfl (lv_at hl 1 rfl) ?_
  refine lv_istore_n (lv' := [(2, .int (nI q0)), (0, .ref a), (1, .int (nI q0))]) hx hb dX1_tripleAt_1 rfl hl (by decide) rfl (fun ls hl => ?_)
  refine lv_iconst (v := nI 0) hx hb dX1_tripleAt_2 (by decide +kernel) ?_
  refine lv_istore_n (lv' := [(3, .int (nI 0)), (2, .int (nI q0)), (0, .ref a), (1, .int (nI q0))]) hx hb dX1_tripleAt_3 rfl hl (by decide) rfl (fun ls hl => ?_)
  have loop : ∀ (n i : Nat) (y : Int32), 64 < i + n → i ≤ 64 → cnt (bt f) (64 * i) ≤ q0 → y = nI (q0 - cnt (bt f) (64 * i)) → ∀ ls, lv_has ls 5 [(3, .int (nI i)), (2, .int y), (0, .ref a), (1, .int (nI q0))] → W p l e (headSpec wsX1_tripleAt ({ frames := 3, cells := 0, slots := 0, locals := 65 } : Room)).room s m ([.ref a, .int (nI q0)] : List Value).toArray below meth c H [] 0 0 (MQ below (kS (Nth (bt f) 4096 (nI q0)) H) ([.ref a, .int (nI q0)] : List Value).toArray s 0 0 kN) (F0 m 4 ls []) := by
    intro n
    induction n with
    | zero => intro i y h0 h1; omega
    | succ n ih =>
      intro i y hn hi hci hy ls hl
      subst hy
      have hch := cnt_le (fun j => bt f (64 * i + j)) 64
      have hca := cnt_add (bt f) (64 * i) 64
      refine lv_iload_n hx hb dX1_tripleAt_4 rfl (lv_at hl 0 rfl) ?_
      refine lv_bipush (v := nI 64) hx hb dX1_tripleAt_5 (by decide +kernel) ?_
      refine n_icmp_ge (tgt := 49) hx hb dX1_tripleAt_7 (by decide) (by omega) (by omega) (fun c_790 => ?_) (fun c_790 => ?_)
      · skip
        refine lv_iconst (v := (-1)) hx hb dX1_tripleAt_49 (by decide +kernel) ?_
        exact r_iS hx hb hr (Or.inr ⟨fun k hk hp e => by
          have e1 := (nI_eq (by have := cnt_le (bt f) k; omega) hc31).mp e
          have e2 := cnt_lt (bt f) hk hp
          rw [show 64 * i = 4096 by omega] at hci
          omega, rfl⟩) dX1_tripleAt_50 hlocks
      · skip
        refine lv_iload_n hx hb dX1_tripleAt_10 rfl (lv_at hl 1 rfl) ?_
        refine n_if_lt (tgt := 49) hx hb dX1_tripleAt_11 (by decide) (by omega) ?_
        refine lv_aload_n hx hb dX1_tripleAt_14 rfl (lv_at hl 2 rfl) ?_
        refine k_get (ci := 1) (C := RX1) (T := TX1) (N := 1) (v := .ref w) hx hb hts (by decide +kernel) hown hK ho rfl 0 (by decide) rfl (hts (.fieldLink RX1 9 RX1 "words" "[J") (by decide +kernel)) rfl dX1_tripleAt_15 ?_
        refine lv_iload_n hx hb dX1_tripleAt_18 rfl (lv_at hl 0 rfl) ?_
        refine k_lald hx hb hK hw (i) rfl (by omega) (by omega) dX1_tripleAt_19 ?_
        refine k_callX (va_runS (As := [.long (f (i))]) (rest := []) ⟨hx, hb, hml, hown, hts⟩ (c_J13_bitCount_f l D g H f i) (va_cwS 1 hts gX1_tripleAt_J13_bitCount_95d88 rfl rfl rfl (by decide +kernel) ⟨Nat.le_of_ble_eq_true rfl, Nat.le_of_ble_eq_true rfl⟩) ⟨kPc_blind, fun U hU hW => kPc_at hK hU hW⟩ rfl rfl hl.1 rfl (lv_room (Nat.le_of_ble_eq_true rfl)) dX1_tripleAt_20 ⟨Nat.le_of_ble_eq_true rfl, Nat.le_of_ble_eq_true rfl⟩) ?_
        refine lv_istore (lv' := [(4, .int (nI (cnt (fun j => bt f (64 * i + j)) 64))), (3, .int (nI i)), (2, .int (nI (q0 - cnt (bt f) (64 * i)))), (0, .ref a), (1, .int (nI q0))]) hx hb dX1_tripleAt_23 hl (by decide) rfl (fun ls hl => ?_)
        refine lv_iload_n hx hb dX1_tripleAt_25 rfl (lv_at hl 2 rfl) ?_
        refine lv_iload hx hb dX1_tripleAt_26 (lv_at hl 0 rfl) ?_
        refine n_icmp_ge (tgt := 38) hx hb dX1_tripleAt_28 (by decide) (by omega) (by omega) (fun c_792 => ?_) (fun c_792 => ?_)
        · skip
          refine lv_iload_n hx hb dX1_tripleAt_38 rfl (lv_at hl 2 rfl) ?_
          refine lv_iload hx hb dX1_tripleAt_39 (lv_at hl 0 rfl) ?_
          refine lv_isub hx hb dX1_tripleAt_41 ?_
          refine lv_topi (nm_r (show (nI (q0 - cnt (bt f) (64 * i))) - (nI (cnt (fun j => bt f (64 * i + j)) 64)) = nI ((q0 - cnt (bt f) (64 * i)) - (cnt (fun j => bt f (64 * i + j)) 64)) from pk_sub (c_792)) ?_)
          refine lv_istore_n (lv' := [(2, .int (nI ((q0 - cnt (bt f) (64 * i)) - (cnt (fun j => bt f (64 * i + j)) 64)))), (4, .int (nI (cnt (fun j => bt f (64 * i + j)) 64))), (3, .int (nI i)), (0, .ref a), (1, .int (nI q0))]) hx hb dX1_tripleAt_42 rfl hl (by decide) rfl (fun ls hl => ?_)
          refine lv_iinc (v := nI (i + 1)) (lv' := [(3, .int (nI (i + 1))), (2, .int (nI ((q0 - cnt (bt f) (64 * i)) - (cnt (fun j => bt f (64 * i + j)) 64)))), (4, .int (nI (cnt (fun j => bt f (64 * i + j)) 64))), (0, .ref a), (1, .int (nI q0))]) hx hb dX1_tripleAt_43 hl (k := 2) rfl (nI_add (i) 1) (by decide) rfl (fun ls hl => ?_)
          refine lv_goto (tgt := 4) hx hb dX1_tripleAt_46 (by decide) ?_
          refine ih (i + 1) _ (by omega) (by omega) ?_ ?_ ls (lv_sub hl [0, 1, 3, 4] rfl)
          · rw [show 64 * (i + 1) = 64 * i + 64 by omega]; omega
          · rw [show 64 * (i + 1) = 64 * i + 64 by omega, hca, Nat.sub_add_eq]
        · skip
          refine lv_aload_n hx hb dX1_tripleAt_31 rfl (lv_at hl 3 rfl) ?_
          refine lv_iload_n hx hb dX1_tripleAt_32 rfl (lv_at hl 1 rfl) ?_
          refine lv_iload_n hx hb dX1_tripleAt_33 rfl (lv_at hl 2 rfl) ?_
          refine k_callS (va_runV (As := [.int (nI i), .int (nI (q0 - cnt (bt f) (64 * i)))]) (rest := []) ⟨hx, hb, hml, hown, hts⟩ (c_X1_tripleInWord l D g H a w f ho hw i (by omega) (q0 - cnt (bt f) (64 * i)) c_792) (cwV 2 hts gX1_tripleAt_X1_tripleInWord rfl rfl rfl (by decide +kernel) ⟨Nat.le_of_ble_eq_true rfl, Nat.le_of_ble_eq_true rfl⟩) ⟨kPc_blind, k_recv hK ho rfl, fun U hU hW => kPc_at hK hU hW⟩ rfl rfl hl.1 rfl (lv_room (Nat.le_of_ble_eq_true rfl)) dX1_tripleAt_34 ⟨Nat.le_of_ble_eq_true rfl, Nat.le_of_ble_eq_true rfl⟩) (fun r hr2 => ?_)
          have hr2 : Nth (bt f) 4096 (nI q0) r := by
            obtain ⟨j, j1, j2, j3, j4⟩ := hr2
            refine Or.inl ⟨64 * i + j, by omega, j2, ?_, j4⟩
            rw [cnt_add, j3, show cnt (bt f) (64 * i) + (q0 - cnt (bt f) (64 * i)) = q0 by omega]
          exact r_iS hx hb hr (hr2) dX1_tripleAt_37 hlocks
  exact loop 65 0 _ (by omega) (by omega) (Nat.zero_le _) rfl ls (lv_sub hl [0, 1, 2, 3] rfl)
theorem c_X1_tripleAt (l : Launch) (D : va_G) (g : Nat → ClassId) (H : Heap) (a w : Nat) (f : Nat → Int64) (ho : HA D H a (eO 1 [.ref w])) (hw : HA D H w (eL (g 2) 64 f)) (ix : Int32) : Met l yX1_tripleAt wsX1_tripleAt ({ frames := 3, cells := 0, slots := 0, locals := 65 } : Room) (kPc D g [.ref a, .int ix] H) (kS (Nth (bt f) 4096 ix) H) 0 0 kN := by
  by_cases h : ix < 0
  · exact c_X1_tripleAt_n l D g H a w f ho hw ix h
  · obtain ⟨c, hc, rfl⟩ := nI_of h
    exact c_X1_tripleAt_y l D g H a w f ho hw c hc
set_option maxHeartbeats 4000000 in
set_option maxRecDepth 100000 in
/-- listE_n -/
theorem c_X3_listE_n (l : Launch) (D : va_G) (g : Nat → ClassId) (b0 : Nat) (H : Heap) (A : Nat → Nat) (σ : SG) (dw : Nat → Int64) (hC : CR D g b0 A σ dw H) (bi ix : Int32) (hN : BrN σ bi) : Met l yX3_list wsX3_list ({ frames := 4, cells := 0, slots := 0, locals := 89 } : Room) (kPc D g [.ref (A 0), .int (bi), .int (ix)] H) (kI (PubQ D g b0 H A σ (SpList σ bi ix))) 0 0 (kF b0) := by
  refine Met.ofW (cc := cX3_list) (maxL := 5) (ret := (some .int)) (by decide) rfl ?_
  intro p e s m args below meth c s₁ B hml hv
  obtain ⟨rfl, hH, hK⟩ := hv
  have hx := B.exec
  have hb := B.bytes
  have hr := B.returns
  have hts := atoms_spec (ws := wsX3_list) B.pre
  have hown : s.vm.findClass RX3 = some m.cls := findClass_of_methodNamed B.named
  have hlocks := B.notSynchronized
  rw [hH]
  have hl := lv_entry ([.ref (A 0), .int (bi), .int (ix)]) (n := 5) (Nat.le_of_ble_eq_true rfl)
  rw [lg_entry_eq]
  generalize (lg_sl ([.ref (A 0), .int (bi), .int (ix)]) ++ List.replicate (5 - (lg_sl ([.ref (A 0), .int (bi), .int (ix)])).length) Slot.unset).toArray = ls at hl ⊢
  have hl : lv_has ls 5 [(0, .ref (A 0)), (1, .int (bi)), (2, .int (ix))] := hl
  have hVB := hC.wf
  have hV4 : sV σ ≤ 400 := hVB.2.1
  have hB4 : sB σ ≤ 40 := hVB.2.2.2.1
  refine lv_aload_n hx hb dX3_list_0 rfl (lv_at hl 0 rfl) ?_
  refine lv_iload_n hx hb dX3_list_1 rfl (lv_at hl 1 rfl) ?_
  refine k_callX (va_runV (As := [.int (bi)]) (rest := []) ⟨hx, hb, hml, hown, hts⟩ (c_X3_branchAt_n l D g b0 H A σ dw hC bi hN) (cwV 1 hts gX3_list_X3_branchAt rfl rfl rfl (by decide +kernel) ⟨Nat.le_of_ble_eq_true rfl, Nat.le_of_ble_eq_true rfl⟩) ⟨kPc_blind, k_recv hK hC.o rfl, fun U hU hW => kPc_at hK hU hW⟩ rfl rfl hl.1 rfl (lv_room (Nat.le_of_ble_eq_true rfl)) dX3_list_2 ⟨Nat.le_of_ble_eq_true rfl, Nat.le_of_ble_eq_true rfl⟩) ?_
  refine lv_astore_nN (lv' := [(3, .null), (0, .ref (A 0)), (1, .int (bi)), (2, .int (ix))]) hx hb dX3_list_5 rfl hl (by decide) rfl (fun ls hl => ?_)
  refine lv_aload_nN hx hb dX3_list_6 rfl (lv_at hl 0 rfl) ?_
  refine lv_ifnonnullN hx hb dX3_list_7 ?_
  refine lv_iconst (v := (-1)) hx hb dX3_list_10 (by decide +kernel) ?_
  exact r_iI hx hb hr LB.nil (Nat.le_refl _) (Nat.le_refl _) ⟨A, σ, dw, hC, CFr.rf, rfl, Or.inl ⟨hN, rfl⟩⟩ dX3_list_11 hlocks
set_option maxHeartbeats 4000000 in
set_option maxRecDepth 100000 in
/-- listE_y -/
theorem c_X3_listE_y (l : Launch) (D : va_G) (g : Nat → ClassId) (b0 : Nat) (H : Heap) (A : Nat → Nat) (σ : SG) (dw : Nat → Int64) (hC : CR D g b0 A σ dw H) (b : Nat) (hb4 : b < sB σ) (ix : Int32) : Met l yX3_list wsX3_list ({ frames := 4, cells := 0, slots := 0, locals := 89 } : Room) (kPc D g [.ref (A 0), .int (nI b), .int (ix)] H) (kI (PubQ D g b0 H A σ (SpList σ (nI b) ix))) 0 0 (kF b0) := by
  refine Met.ofW (cc := cX3_list) (maxL := 5) (ret := (some .int)) (by decide) rfl ?_
  intro p e s m args below meth c s₁ B hml hv
  obtain ⟨rfl, hH, hK⟩ := hv
  have hx := B.exec
  have hb := B.bytes
  have hr := B.returns
  have hts := atoms_spec (ws := wsX3_list) B.pre
  have hown : s.vm.findClass RX3 = some m.cls := findClass_of_methodNamed B.named
  have hlocks := B.notSynchronized
  rw [hH]
  have hl := lv_entry ([.ref (A 0), .int (nI b), .int (ix)]) (n := 5) (Nat.le_of_ble_eq_true rfl)
  rw [lg_entry_eq]
  generalize (lg_sl ([.ref (A 0), .int (nI b), .int (ix)]) ++ List.replicate (5 - (lg_sl ([.ref (A 0), .int (nI b), .int (ix)])).length) Slot.unset).toArray = ls at hl ⊢
  have hl : lv_has ls 5 [(0, .ref (A 0)), (1, .int (nI b)), (2, .int (ix))] := hl
  have hVB := hC.wf
  have hV4 : sV σ ≤ 400 := hVB.2.1
  have hB4 : sB σ ≤ 40 := hVB.2.2.2.1
  have hhd := hVB.2.2.2.2.1 b hb4
  refine lv_aload_n hx hb dX3_list_0 rfl (lv_at hl 0 rfl) ?_
  refine lv_iload_n hx hb dX3_list_1 rfl (lv_at hl 1 rfl) ?_
  refine k_callX (va_runV (As := [.int (nI b)]) (rest := []) ⟨hx, hb, hml, hown, hts⟩ (c_X3_branchAt_y l D g b0 H A σ dw hC b hb4) (cwV 1 hts gX3_list_X3_branchAt rfl rfl rfl (by decide +kernel) ⟨Nat.le_of_ble_eq_true rfl, Nat.le_of_ble_eq_true rfl⟩) ⟨kPc_blind, k_recv hK hC.o rfl, fun U hU hW => kPc_at hK hU hW⟩ rfl rfl hl.1 rfl (lv_room (Nat.le_of_ble_eq_true rfl)) dX3_list_2 ⟨Nat.le_of_ble_eq_true rfl, Nat.le_of_ble_eq_true rfl⟩) ?_
  refine lv_astore_n (lv' := [(3, .ref (A (2000 + b))), (0, .ref (A 0)), (1, .int (nI b)), (2, .int (ix))]) hx hb dX3_list_5 rfl hl (by decide) rfl (fun ls hl => ?_)
  refine lv_aload_n hx hb dX3_list_6 rfl (lv_at hl 0 rfl) ?_
  refine lv_ifnonnull (tgt := 12) hx hb dX3_list_7 (by decide) ?_
  refine lv_aload_n hx hb dX3_list_12 rfl (lv_at hl 0 rfl) ?_
  refine k_getN (ci := 0) (C := RX0) (T := TX0) (N := 1) (v := .ref (A (16 + 4 * (sH σ b)))) hx hb hts (by decide +kernel) hown hK (hC.ba hb4) rfl 0 (by decide) rfl (List.mem_of_getElem? (i := 4) rfl) rfl dX3_list_13 ?_
  refine k_getN (ci := 2) (C := RX2) (T := TX2) (N := 5) (v := .ref (A (17 + 4 * (sH σ b)))) hx hb hts (by decide +kernel) hown hK (hC.ver hhd) rfl 3 (by decide) rfl (List.mem_of_getElem? (i := 3) rfl) rfl dX3_list_16 ?_
  refine lv_iload_n hx hb dX3_list_19 rfl (lv_at hl 3 rfl) ?_
  refine k_callS (va_runVN (As := [.int (ix)]) (rest := []) ⟨hx, hb, hml, hown, hts⟩ (c_X1_tripleAt l D g H (A (17 + 4 * (sH σ b))) (A (18 + 4 * (sH σ b))) (sW σ (sH σ b)) (hC.ts hhd) (hC.tw hhd) ix) ⟨va_cnB 1 hts gX3_list_X1_tripleAt_n118 rfl rfl rfl (hK.2.1 (RX3, 118, yX1_tripleAt) (List.mem_of_getElem? (i := 18) rfl)) (hts (.initialized RX1) (by decide +kernel)) (by decide +kernel) ⟨Nat.le_of_ble_eq_true rfl, Nat.le_of_ble_eq_true rfl⟩, hts (.instanceMethod yX1_tripleAt) (by decide +kernel), hts (.selects RX1 yX1_tripleAt yX1_tripleAt) (by decide +kernel)⟩ ⟨kPc_blind, k_recv hK (hC.ts hhd) rfl, fun U hU hW => kPc_at hK hU hW⟩ rfl rfl hl.1 rfl (lv_room (Nat.le_of_ble_eq_true rfl)) dX3_list_20 ⟨Nat.le_of_ble_eq_true rfl, Nat.le_of_ble_eq_true rfl⟩) (fun rt hrt => ?_)
  refine lv_istore (lv' := [(4, .int (rt)), (3, .ref (A (2000 + b))), (0, .ref (A 0)), (1, .int (nI b)), (2, .int (ix))]) hx hb dX3_list_23 hl (by decide) rfl (fun ls hl => ?_)
  refine lv_iload hx hb dX3_list_25 (lv_at hl 0 rfl) ?_
  refine lv_iconst (v := (-1)) hx hb dX3_list_27 (by decide +kernel) ?_
  rcases hrt with ⟨t, ht, htp, hti, rfl⟩ | ⟨hno, rfl⟩
  · skip
    refine lv_icmp_ne (tgt := 36) hx hb dX3_list_28 (by decide) (fun _ => ?_) (fun q => absurd q (nI_neg (by omega)))
    refine lv_iload hx hb dX3_list_36 (lv_at hl 0 rfl) ?_
    exact r_iI hx hb hr LB.nil (Nat.le_refl _) (Nat.le_refl _) ⟨A, σ, dw, hC, CFr.rf, rfl, Or.inr ⟨b, hb4, rfl, Or.inl ⟨t, ht, htp, hti, rfl⟩⟩⟩ dX3_list_38 hlocks
  · skip
    refine lv_icmp_ne (tgt := 36) hx hb dX3_list_28 (by decide) (fun q => absurd rfl q) (fun _ => ?_)
    refine lv_bipush (v := (-2)) hx hb dX3_list_31 (by decide +kernel) ?_
    refine lv_goto (tgt := 38) hx hb dX3_list_33 (by decide) ?_
    exact r_iI hx hb hr LB.nil (Nat.le_refl _) (Nat.le_refl _) ⟨A, σ, dw, hC, CFr.rf, rfl, Or.inr ⟨b, hb4, rfl, Or.inr ⟨hno, rfl⟩⟩⟩ dX3_list_38 hlocks
theorem c_X3_listE (l : Launch) (D : va_G) (g : Nat → ClassId) (b0 : Nat) (H : Heap) (A : Nat → Nat) (σ : SG) (dw : Nat → Int64) (hC : CR D g b0 A σ dw H) (bi ix : Int32) : Met l yX3_list wsX3_list ({ frames := 4, cells := 0, slots := 0, locals := 89 } : Room) (kPc D g [.ref (A 0), .int bi, .int ix] H) (kI (PubQ D g b0 H A σ (SpList σ bi ix))) 0 0 (kF b0) := by
  rcases br_dec σ bi with h | ⟨b, hb4, rfl⟩
  · exact c_X3_listE_n l D g b0 H A σ dw hC bi ix h
  · exact c_X3_listE_y l D g b0 H A σ dw hC b hb4 ix
set_option maxHeartbeats 4000000 in
set_option maxRecDepth 100000 in
/-- patchE_n1 -/
theorem c_X3_patchE_n1 (l : Launch) (D : va_G) (g : Nat → ClassId) (b0 : Nat) (H : Heap) (A : Nat → Nat) (σ : SG) (dw : Nat → Int64) (hC : CR D g b0 A σ dw H) (fi ti ix : Int32) (hN : VeN σ fi) : Met l yX3_patch wsX3_patch ({ frames := 4, cells := 0, slots := 0, locals := 89 } : Room) (kPc D g [.ref (A 0), .int (fi), .int (ti), .int (ix)] H) (kI (PubQ D g b0 H A σ (SpPatch σ fi ti ix))) 0 0 (kF b0) := by
  refine Met.ofW (cc := cX3_patch) (maxL := 7) (ret := (some .int)) (by decide) rfl ?_
  intro p e s m args below meth c s₁ B hml hv
  obtain ⟨rfl, hH, hK⟩ := hv
  have hx := B.exec
  have hb := B.bytes
  have hr := B.returns
  have hts := atoms_spec (ws := wsX3_patch) B.pre
  have hown : s.vm.findClass RX3 = some m.cls := findClass_of_methodNamed B.named
  have hlocks := B.notSynchronized
  rw [hH]
  have hl := lv_entry ([.ref (A 0), .int (fi), .int (ti), .int (ix)]) (n := 7) (Nat.le_of_ble_eq_true rfl)
  rw [lg_entry_eq]
  generalize (lg_sl ([.ref (A 0), .int (fi), .int (ti), .int (ix)]) ++ List.replicate (7 - (lg_sl ([.ref (A 0), .int (fi), .int (ti), .int (ix)])).length) Slot.unset).toArray = ls at hl ⊢
  have hl : lv_has ls 7 [(0, .ref (A 0)), (1, .int (fi)), (2, .int (ti)), (3, .int (ix))] := hl
  have hVB := hC.wf
  have hV4 : sV σ ≤ 400 := hVB.2.1
  have hB4 : sB σ ≤ 40 := hVB.2.2.2.1
  refine lv_aload_n hx hb dX3_patch_0 rfl (lv_at hl 0 rfl) ?_
  refine lv_iload_n hx hb dX3_patch_1 rfl (lv_at hl 1 rfl) ?_
  refine k_callX (va_runV (As := [.int (fi)]) (rest := []) ⟨hx, hb, hml, hown, hts⟩ (c_X3_versionAt_n l D g b0 H A σ dw hC fi hN) (cwV 1 hts gX3_patch_X3_versionAt rfl rfl rfl (by decide +kernel) ⟨Nat.le_of_ble_eq_true rfl, Nat.le_of_ble_eq_true rfl⟩) ⟨kPc_blind, k_recv hK hC.o rfl, fun U hU hW => kPc_at hK hU hW⟩ rfl rfl hl.1 rfl (lv_room (Nat.le_of_ble_eq_true rfl)) dX3_patch_2 ⟨Nat.le_of_ble_eq_true rfl, Nat.le_of_ble_eq_true rfl⟩) ?_
  refine lv_astoreN (lv' := [(4, .null), (0, .ref (A 0)), (1, .int (fi)), (2, .int (ti)), (3, .int (ix))]) hx hb dX3_patch_5 hl (by decide) rfl (fun ls hl => ?_)
  refine lv_aload_n hx hb dX3_patch_7 rfl (lv_at hl 1 rfl) ?_
  refine lv_iload_n hx hb dX3_patch_8 rfl (lv_at hl 3 rfl) ?_
  rcases ve_dec σ ti with hM | ⟨n2, hn2, rfl⟩
  · skip
    refine k_callX (va_runV (As := [.int (ti)]) (rest := []) ⟨hx, hb, hml, hown, hts⟩ (c_X3_versionAt_n l D g b0 H A σ dw hC ti hM) (cwV 1 hts gX3_patch_X3_versionAt rfl rfl rfl (by decide +kernel) ⟨Nat.le_of_ble_eq_true rfl, Nat.le_of_ble_eq_true rfl⟩) ⟨kPc_blind, k_recv hK hC.o rfl, fun U hU hW => kPc_at hK hU hW⟩ rfl rfl hl.1 rfl (lv_room (Nat.le_of_ble_eq_true rfl)) dX3_patch_9 ⟨Nat.le_of_ble_eq_true rfl, Nat.le_of_ble_eq_true rfl⟩) ?_
    refine lv_astoreN (lv' := [(5, .null), (4, .null), (0, .ref (A 0)), (1, .int (fi)), (2, .int (ti)), (3, .int (ix))]) hx hb dX3_patch_12 hl (by decide) rfl (fun ls hl => ?_)
    refine lv_aloadN hx hb dX3_patch_14 (lv_at hl 1 rfl) ?_
    refine lv_ifnullN (tgt := 24) hx hb dX3_patch_16 (by decide) ?_
    refine lv_iconst (v := (-1)) hx hb dX3_patch_24 (by decide +kernel) ?_
    exact r_iI hx hb hr LB.nil (Nat.le_refl _) (Nat.le_refl _) ⟨A, σ, dw, hC, CFr.rf, rfl, Or.inl ⟨Or.inl hN, rfl⟩⟩ dX3_patch_25 hlocks
  · skip
    refine k_callX (va_runV (As := [.int (nI n2)]) (rest := []) ⟨hx, hb, hml, hown, hts⟩ (c_X3_versionAt_y l D g b0 H A σ dw hC n2 hn2) (cwV 1 hts gX3_patch_X3_versionAt rfl rfl rfl (by decide +kernel) ⟨Nat.le_of_ble_eq_true rfl, Nat.le_of_ble_eq_true rfl⟩) ⟨kPc_blind, k_recv hK hC.o rfl, fun U hU hW => kPc_at hK hU hW⟩ rfl rfl hl.1 rfl (lv_room (Nat.le_of_ble_eq_true rfl)) dX3_patch_9 ⟨Nat.le_of_ble_eq_true rfl, Nat.le_of_ble_eq_true rfl⟩) ?_
    refine lv_astore (lv' := [(5, .ref (A (16 + 4 * n2))), (4, .null), (0, .ref (A 0)), (1, .int (fi)), (2, .int (nI n2)), (3, .int (ix))]) hx hb dX3_patch_12 hl (by decide) rfl (fun ls hl => ?_)
    refine lv_aloadN hx hb dX3_patch_14 (lv_at hl 1 rfl) ?_
    refine lv_ifnullN (tgt := 24) hx hb dX3_patch_16 (by decide) ?_
    refine lv_iconst (v := (-1)) hx hb dX3_patch_24 (by decide +kernel) ?_
    exact r_iI hx hb hr LB.nil (Nat.le_refl _) (Nat.le_refl _) ⟨A, σ, dw, hC, CFr.rf, rfl, Or.inl ⟨Or.inl hN, rfl⟩⟩ dX3_patch_25 hlocks
set_option maxHeartbeats 4000000 in
set_option maxRecDepth 100000 in
/-- patchE_n2 -/
theorem c_X3_patchE_n2 (l : Launch) (D : va_G) (g : Nat → ClassId) (b0 : Nat) (H : Heap) (A : Nat → Nat) (σ : SG) (dw : Nat → Int64) (hC : CR D g b0 A σ dw H) (n : Nat) (hn : n < sV σ) (ti ix : Int32) (hN : VeN σ ti) : Met l yX3_patch wsX3_patch ({ frames := 4, cells := 0, slots := 0, locals := 89 } : Room) (kPc D g [.ref (A 0), .int (nI n), .int (ti), .int (ix)] H) (kI (PubQ D g b0 H A σ (SpPatch σ (nI n) ti ix))) 0 0 (kF b0) := by
  refine Met.ofW (cc := cX3_patch) (maxL := 7) (ret := (some .int)) (by decide) rfl ?_
  intro p e s m args below meth c s₁ B hml hv
  obtain ⟨rfl, hH, hK⟩ := hv
  have hx := B.exec
  have hb := B.bytes
  have hr := B.returns
  have hts := atoms_spec (ws := wsX3_patch) B.pre
  have hown : s.vm.findClass RX3 = some m.cls := findClass_of_methodNamed B.named
  have hlocks := B.notSynchronized
  rw [hH]
  have hl := lv_entry ([.ref (A 0), .int (nI n), .int (ti), .int (ix)]) (n := 7) (Nat.le_of_ble_eq_true rfl)
  rw [lg_entry_eq]
  generalize (lg_sl ([.ref (A 0), .int (nI n), .int (ti), .int (ix)]) ++ List.replicate (7 - (lg_sl ([.ref (A 0), .int (nI n), .int (ti), .int (ix)])).length) Slot.unset).toArray = ls at hl ⊢
  have hl : lv_has ls 7 [(0, .ref (A 0)), (1, .int (nI n)), (2, .int (ti)), (3, .int (ix))] := hl
  have hVB := hC.wf
  have hV4 : sV σ ≤ 400 := hVB.2.1
  have hB4 : sB σ ≤ 40 := hVB.2.2.2.1
  refine lv_aload_n hx hb dX3_patch_0 rfl (lv_at hl 0 rfl) ?_
  refine lv_iload_n hx hb dX3_patch_1 rfl (lv_at hl 1 rfl) ?_
  refine k_callX (va_runV (As := [.int (nI n)]) (rest := []) ⟨hx, hb, hml, hown, hts⟩ (c_X3_versionAt_y l D g b0 H A σ dw hC n hn) (cwV 1 hts gX3_patch_X3_versionAt rfl rfl rfl (by decide +kernel) ⟨Nat.le_of_ble_eq_true rfl, Nat.le_of_ble_eq_true rfl⟩) ⟨kPc_blind, k_recv hK hC.o rfl, fun U hU hW => kPc_at hK hU hW⟩ rfl rfl hl.1 rfl (lv_room (Nat.le_of_ble_eq_true rfl)) dX3_patch_2 ⟨Nat.le_of_ble_eq_true rfl, Nat.le_of_ble_eq_true rfl⟩) ?_
  refine lv_astore (lv' := [(4, .ref (A (16 + 4 * n))), (0, .ref (A 0)), (1, .int (nI n)), (2, .int (ti)), (3, .int (ix))]) hx hb dX3_patch_5 hl (by decide) rfl (fun ls hl => ?_)
  refine lv_aload_n hx hb dX3_patch_7 rfl (lv_at hl 1 rfl) ?_
  refine lv_iload_n hx hb dX3_patch_8 rfl (lv_at hl 3 rfl) ?_
  refine k_callX (va_runV (As := [.int (ti)]) (rest := []) ⟨hx, hb, hml, hown, hts⟩ (c_X3_versionAt_n l D g b0 H A σ dw hC ti hN) (cwV 1 hts gX3_patch_X3_versionAt rfl rfl rfl (by decide +kernel) ⟨Nat.le_of_ble_eq_true rfl, Nat.le_of_ble_eq_true rfl⟩) ⟨kPc_blind, k_recv hK hC.o rfl, fun U hU hW => kPc_at hK hU hW⟩ rfl rfl hl.1 rfl (lv_room (Nat.le_of_ble_eq_true rfl)) dX3_patch_9 ⟨Nat.le_of_ble_eq_true rfl, Nat.le_of_ble_eq_true rfl⟩) ?_
  refine lv_astoreN (lv' := [(5, .null), (4, .ref (A (16 + 4 * n))), (0, .ref (A 0)), (1, .int (nI n)), (2, .int (ti)), (3, .int (ix))]) hx hb dX3_patch_12 hl (by decide) rfl (fun ls hl => ?_)
  refine lv_aload hx hb dX3_patch_14 (lv_at hl 1 rfl) ?_
  refine lv_ifnull hx hb dX3_patch_16 ?_
  refine lv_aloadN hx hb dX3_patch_19 (lv_at hl 0 rfl) ?_
  refine lv_ifnonnullN hx hb dX3_patch_21 ?_
  refine lv_iconst (v := (-1)) hx hb dX3_patch_24 (by decide +kernel) ?_
  exact r_iI hx hb hr LB.nil (Nat.le_refl _) (Nat.le_refl _) ⟨A, σ, dw, hC, CFr.rf, rfl, Or.inl ⟨Or.inr hN, rfl⟩⟩ dX3_patch_25 hlocks
set_option maxHeartbeats 4000000 in
set_option maxRecDepth 100000 in
/-- patchE_y -/
theorem c_X3_patchE_y (l : Launch) (D : va_G) (g : Nat → ClassId) (b0 : Nat) (H : Heap) (A : Nat → Nat) (σ : SG) (dw : Nat → Int64) (hC : CR D g b0 A σ dw H) (n n2 : Nat) (hn : n < sV σ) (hn2 : n2 < sV σ) (ix : Int32) : Met l yX3_patch wsX3_patch ({ frames := 4, cells := 0, slots := 0, locals := 89 } : Room) (kPc D g [.ref (A 0), .int (nI n), .int (nI n2), .int (ix)] H) (kI (PubQ D g b0 H A σ (SpPatch σ (nI n) (nI n2) ix))) 0 0 (kF b0) := by
  refine Met.ofW (cc := cX3_patch) (maxL := 7) (ret := (some .int)) (by decide) rfl ?_
  intro p e s m args below meth c s₁ B hml hv
  obtain ⟨rfl, hH, hK⟩ := hv
  have hx := B.exec
  have hb := B.bytes
  have hr := B.returns
  have hts := atoms_spec (ws := wsX3_patch) B.pre
  have hown : s.vm.findClass RX3 = some m.cls := findClass_of_methodNamed B.named
  have hlocks := B.notSynchronized
  rw [hH]
  have hl := lv_entry ([.ref (A 0), .int (nI n), .int (nI n2), .int (ix)]) (n := 7) (Nat.le_of_ble_eq_true rfl)
  rw [lg_entry_eq]
  generalize (lg_sl ([.ref (A 0), .int (nI n), .int (nI n2), .int (ix)]) ++ List.replicate (7 - (lg_sl ([.ref (A 0), .int (nI n), .int (nI n2), .int (ix)])).length) Slot.unset).toArray = ls at hl ⊢
  have hl : lv_has ls 7 [(0, .ref (A 0)), (1, .int (nI n)), (2, .int (nI n2)), (3, .int (ix))] := hl
  have hVB := hC.wf
  have hV4 : sV σ ≤ 400 := hVB.2.1
  have hB4 : sB σ ≤ 40 := hVB.2.2.2.1
  refine lv_aload_n hx hb dX3_patch_0 rfl (lv_at hl 0 rfl) ?_
  refine lv_iload_n hx hb dX3_patch_1 rfl (lv_at hl 1 rfl) ?_
  refine k_callX (va_runV (As := [.int (nI n)]) (rest := []) ⟨hx, hb, hml, hown, hts⟩ (c_X3_versionAt_y l D g b0 H A σ dw hC n hn) (cwV 1 hts gX3_patch_X3_versionAt rfl rfl rfl (by decide +kernel) ⟨Nat.le_of_ble_eq_true rfl, Nat.le_of_ble_eq_true rfl⟩) ⟨kPc_blind, k_recv hK hC.o rfl, fun U hU hW => kPc_at hK hU hW⟩ rfl rfl hl.1 rfl (lv_room (Nat.le_of_ble_eq_true rfl)) dX3_patch_2 ⟨Nat.le_of_ble_eq_true rfl, Nat.le_of_ble_eq_true rfl⟩) ?_
  refine lv_astore (lv' := [(4, .ref (A (16 + 4 * n))), (0, .ref (A 0)), (1, .int (nI n)), (2, .int (nI n2)), (3, .int (ix))]) hx hb dX3_patch_5 hl (by decide) rfl (fun ls hl => ?_)
  refine lv_aload_n hx hb dX3_patch_7 rfl (lv_at hl 1 rfl) ?_
  refine lv_iload_n hx hb dX3_patch_8 rfl (lv_at hl 3 rfl) ?_
  refine k_callX (va_runV (As := [.int (nI n2)]) (rest := []) ⟨hx, hb, hml, hown, hts⟩ (c_X3_versionAt_y l D g b0 H A σ dw hC n2 hn2) (cwV 1 hts gX3_patch_X3_versionAt rfl rfl rfl (by decide +kernel) ⟨Nat.le_of_ble_eq_true rfl, Nat.le_of_ble_eq_true rfl⟩) ⟨kPc_blind, k_recv hK hC.o rfl, fun U hU hW => kPc_at hK hU hW⟩ rfl rfl hl.1 rfl (lv_room (Nat.le_of_ble_eq_true rfl)) dX3_patch_9 ⟨Nat.le_of_ble_eq_true rfl, Nat.le_of_ble_eq_true rfl⟩) ?_
  refine lv_astore (lv' := [(5, .ref (A (16 + 4 * n2))), (4, .ref (A (16 + 4 * n))), (0, .ref (A 0)), (1, .int (nI n)), (2, .int (nI n2)), (3, .int (ix))]) hx hb dX3_patch_12 hl (by decide) rfl (fun ls hl => ?_)
  refine lv_aload hx hb dX3_patch_14 (lv_at hl 1 rfl) ?_
  refine lv_ifnull hx hb dX3_patch_16 ?_
  refine lv_aload hx hb dX3_patch_19 (lv_at hl 0 rfl) ?_
  refine lv_ifnonnull (tgt := 26) hx hb dX3_patch_21 (by decide) ?_
  refine lv_aload_n hx hb dX3_patch_26 rfl (lv_at hl 2 rfl) ?_
  refine k_get (ci := 3) (C := RX3) (T := TX3) (N := 7) (v := .ref (A 7)) hx hb hts (by decide +kernel) hown hK hC.o rfl 6 (by decide) rfl (hts (.fieldLink RX3 31 RX3 "draft" "LVersionMerge$TripleSet;") (by decide +kernel)) rfl dX3_patch_27 ?_
  refine lv_aload hx hb dX3_patch_30 (lv_at hl 1 rfl) ?_
  refine k_getN (ci := 2) (C := RX2) (T := TX2) (N := 5) (v := .ref (A (17 + 4 * n))) hx hb hts (by decide +kernel) hown hK (hC.ver hn) rfl 3 (by decide) rfl (List.mem_of_getElem? (i := 3) rfl) rfl dX3_patch_32 ?_
  refine lv_aload hx hb dX3_patch_35 (lv_at hl 0 rfl) ?_
  refine k_getN (ci := 2) (C := RX2) (T := TX2) (N := 5) (v := .ref (A (17 + 4 * n2))) hx hb hts (by decide +kernel) hown hK (hC.ver hn2) rfl 3 (by decide) rfl (List.mem_of_getElem? (i := 3) rfl) rfl dX3_patch_37 ?_
  refine k_callU (va_runVN (As := [.ref (A (17 + 4 * n)), .ref (A (17 + 4 * n2))]) (rest := []) ⟨hx, hb, hml, hown, hts⟩ (c_X1_becomeDifference l D g b0 H (A 7) (A 8) dw hC.dr hC.drw (hC.ge (cl0 (by omega))) (hC.ne (cl0 (by omega)) (cl0 (by omega)) (by omega)) (A (17 + 4 * n)) (A (18 + 4 * n)) (sW σ n) (hC.ts hn) (hC.tw hn) (hC.ne (clV n hn (by omega) (by omega)) (cl0 (by omega)) (by omega)) (hC.ne (clV n hn (by omega) (by omega)) (cl0 (by omega)) (by omega)) (A (17 + 4 * n2)) (A (18 + 4 * n2)) (sW σ n2) (hC.ts hn2) (hC.tw hn2) (hC.ne (clV n2 hn2 (by omega) (by omega)) (cl0 (by omega)) (by omega)) (hC.ne (clV n2 hn2 (by omega) (by omega)) (cl0 (by omega)) (by omega))) ⟨va_cnB 2 hts gX3_patch_X1_becomeDifference_n114 rfl rfl rfl (hK.2.1 (RX3, 114, yX1_becomeDifference) (List.mem_of_getElem? (i := 17) rfl)) (hts (.initialized RX1) (by decide +kernel)) (by decide +kernel) ⟨Nat.le_of_ble_eq_true rfl, Nat.le_of_ble_eq_true rfl⟩, hts (.instanceMethod yX1_becomeDifference) (by decide +kernel), hts (.selects RX1 yX1_becomeDifference yX1_becomeDifference) (by decide +kernel)⟩ ⟨kPc_blind, k_recv hK hC.dr rfl, fun U hU hW => kPc_at hK hU hW⟩ rfl rfl hl.1 rfl (lv_room (Nat.le_of_ble_eq_true rfl)) dX3_patch_40 ⟨Nat.le_of_ble_eq_true rfl, Nat.le_of_ble_eq_true rfl⟩) LB.nil (fun H1 locs1 hLB1 hq1 => ?_)
  obtain ⟨f1, hw1, hCh, hf1v⟩ := hq1
  have hC1 := hC.draft hw1 hCh
  have hF1 : CFr H A σ H1 A σ := CFr.chg (cl0 (by omega)) hCh (fun c hc => hc)
  refine lv_aload_n hx hb dX3_patch_43 rfl (lv_at hl 2 rfl) ?_
  refine k_get (ci := 3) (C := RX3) (T := TX3) (N := 7) (v := .ref (A 7)) hx hb hts (by decide +kernel) hown hK hC1.o rfl 6 (by decide) rfl (hts (.fieldLink RX3 31 RX3 "draft" "LVersionMerge$TripleSet;") (by decide +kernel)) rfl dX3_patch_44 ?_
  refine lv_iload_n hx hb dX3_patch_47 rfl (lv_at hl 5 rfl) ?_
  refine k_callS (va_runVN (As := [.int (ix)]) (rest := []) ⟨hx, hb, hml, hown, hts⟩ (c_X1_tripleAt l D g H1 (A 7) (A 8) f1 hC1.dr hC1.drw ix) ⟨va_cnB 1 hts gX3_patch_X1_tripleAt_n118 rfl rfl rfl (hK.2.1 (RX3, 118, yX1_tripleAt) (List.mem_of_getElem? (i := 18) rfl)) (hts (.initialized RX1) (by decide +kernel)) (by decide +kernel) ⟨Nat.le_of_ble_eq_true rfl, Nat.le_of_ble_eq_true rfl⟩, hts (.instanceMethod yX1_tripleAt) (by decide +kernel), hts (.selects RX1 yX1_tripleAt yX1_tripleAt) (by decide +kernel)⟩ ⟨kPc_blind, k_recv hK hC1.dr rfl, fun U hU hW => kPc_at hK hU hW⟩ rfl rfl hl.1 rfl (lv_room (Nat.le_of_ble_eq_true rfl)) dX3_patch_48 ⟨Nat.le_of_ble_eq_true rfl, Nat.le_of_ble_eq_true rfl⟩) (fun rt hrt => ?_)
  have hrt := nth_dif hf1v hrt
  refine lv_istore (lv' := [(6, .int (rt)), (5, .ref (A (16 + 4 * n2))), (4, .ref (A (16 + 4 * n))), (0, .ref (A 0)), (1, .int (nI n)), (2, .int (nI n2)), (3, .int (ix))]) hx hb dX3_patch_51 hl (by decide) rfl (fun ls hl => ?_)
  refine lv_iload hx hb dX3_patch_53 (lv_at hl 0 rfl) ?_
  refine lv_iconst (v := (-1)) hx hb dX3_patch_55 (by decide +kernel) ?_
  rcases hrt with ⟨t, ht, htp, hti, rfl⟩ | ⟨hno, rfl⟩
  · skip
    refine lv_icmp_ne (tgt := 62) hx hb dX3_patch_56 (by decide) (fun _ => ?_) (fun q => absurd q (nI_neg (by omega)))
    refine lv_aload hx hb dX3_patch_62 (lv_at hl 1 rfl) ?_
    refine k_getN (ci := 2) (C := RX2) (T := TX2) (N := 5) (v := .ref (A (17 + 4 * n2))) hx hb hts (by decide +kernel) hown hK (hC1.ver hn2) rfl 3 (by decide) rfl (List.mem_of_getElem? (i := 3) rfl) rfl dX3_patch_64 ?_
    refine lv_iload hx hb dX3_patch_67 (lv_at hl 0 rfl) ?_
    refine k_callX (va_runVN (As := [.int (nI t)]) (rest := []) ⟨hx, hb, hml, hown, hts⟩ (c_X1_has l D g H1 (A (17 + 4 * n2)) (A (18 + 4 * n2)) (sW σ n2) (hC1.ts hn2) (hC1.tw hn2) t ht) ⟨va_cnB 1 hts gX3_patch_X1_has_n61 rfl rfl rfl (hK.2.1 (RX3, 61, yX1_has) (List.mem_of_getElem? (i := 5) rfl)) (hts (.initialized RX1) (by decide +kernel)) (by decide +kernel) ⟨Nat.le_of_ble_eq_true rfl, Nat.le_of_ble_eq_true rfl⟩, hts (.instanceMethod yX1_has) (by decide +kernel), hts (.selects RX1 yX1_has yX1_has) (by decide +kernel)⟩ ⟨kPc_blind, k_recv hK (hC1.ts hn2) rfl, fun U hU hW => kPc_at hK hU hW⟩ rfl rfl hl.1 rfl (lv_room (Nat.le_of_ble_eq_true rfl)) dX3_patch_69 ⟨Nat.le_of_ble_eq_true rfl, Nat.le_of_ble_eq_true rfl⟩) ?_
    refine z_if_eq (tgt := 80) hx hb dX3_patch_72 (by decide) (fun c_793 => ?_) (fun c_793 => ?_)
    · skip
      refine lv_bipush (v := (-10)) hx hb dX3_patch_80 (by decide +kernel) ?_
      refine lv_iload hx hb dX3_patch_82 (lv_at hl 0 rfl) ?_
      refine lv_isub hx hb dX3_patch_84 ?_
      exact r_iI hx hb hr hLB1 (Nat.le_refl _) (Nat.le_refl _) ⟨A, σ, f1, hC1, hF1, rfl, Or.inr ⟨n, n2, hn, hn2, rfl, rfl, Or.inl ⟨t, ht, htp, hti, by rw [c_793]; rfl⟩⟩⟩ dX3_patch_85 hlocks
    · skip
      refine lv_iload hx hb dX3_patch_75 (lv_at hl 0 rfl) ?_
      refine lv_goto (tgt := 85) hx hb dX3_patch_77 (by decide) ?_
      exact r_iI hx hb hr hLB1 (Nat.le_refl _) (Nat.le_refl _) ⟨A, σ, f1, hC1, hF1, rfl, Or.inr ⟨n, n2, hn, hn2, rfl, rfl, Or.inl ⟨t, ht, htp, hti, by rw [c_793]; rfl⟩⟩⟩ dX3_patch_85 hlocks
  · skip
    refine lv_icmp_ne (tgt := 62) hx hb dX3_patch_56 (by decide) (fun q => absurd rfl q) (fun _ => ?_)
    refine lv_bipush (v := (-2)) hx hb dX3_patch_59 (by decide +kernel) ?_
    exact r_iI hx hb hr hLB1 (Nat.le_refl _) (Nat.le_refl _) ⟨A, σ, f1, hC1, hF1, rfl, Or.inr ⟨n, n2, hn, hn2, rfl, rfl, Or.inr ⟨hno, rfl⟩⟩⟩ dX3_patch_61 hlocks
theorem c_X3_patchE (l : Launch) (D : va_G) (g : Nat → ClassId) (b0 : Nat) (H : Heap) (A : Nat → Nat) (σ : SG) (dw : Nat → Int64) (hC : CR D g b0 A σ dw H) (fi ti ix : Int32) : Met l yX3_patch wsX3_patch ({ frames := 4, cells := 0, slots := 0, locals := 89 } : Room) (kPc D g [.ref (A 0), .int fi, .int ti, .int ix] H) (kI (PubQ D g b0 H A σ (SpPatch σ fi ti ix))) 0 0 (kF b0) := by
  rcases ve_dec σ fi with h | ⟨n, hn, rfl⟩
  · exact c_X3_patchE_n1 l D g b0 H A σ dw hC fi ti ix h
  · rcases ve_dec σ ti with h | ⟨n2, hn2, rfl⟩
    · exact c_X3_patchE_n2 l D g b0 H A σ dw hC n hn ti ix h
    · exact c_X3_patchE_y l D g b0 H A σ dw hC n n2 hn hn2 ix

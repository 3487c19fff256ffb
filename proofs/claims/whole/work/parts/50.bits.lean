-- INTS AND BITS: small numbers as ints, bits of ints and longs
theorem n_i {i : Nat} (h : i < 2147483648) : (Int32.ofNat i).toInt = (i : Int) := Int32.toInt_ofNat_of_lt h
theorem n_lt {i j : Nat} (hi : i < 2147483648) (hj : j < 2147483648) : (Int32.ofNat i < Int32.ofNat j) ↔ i < j := by
  rw [Int32.lt_iff_toInt_lt, n_i hi, n_i hj]; omega
theorem n_le {i j : Nat} (hi : i < 2147483648) (hj : j < 2147483648) : (Int32.ofNat i ≤ Int32.ofNat j) ↔ i ≤ j := by
  rw [Int32.le_iff_toInt_le, n_i hi, n_i hj]; omega
theorem n_eq {i j : Nat} (hi : i < 2147483648) (hj : j < 2147483648) : (Int32.ofNat i = Int32.ofNat j) ↔ i = j := by
  rw [← Int32.toInt_inj, n_i hi, n_i hj]; omega
theorem n_cl {i : Nat} (h : i < 2147483648) : (Int32.ofNat i).toNatClampNeg = i := Int32.toNatClampNeg_ofNat_of_lt h
theorem n_add (i j : Nat) : Int32.ofNat i + Int32.ofNat j = Int32.ofNat (i + j) := (Int32.ofNat_add i j).symm
theorem n_mul (i j : Nat) : Int32.ofNat i * Int32.ofNat j = Int32.ofNat (i * j) := (Int32.ofNat_mul i j).symm
theorem n_s (i : Nat) : Int32.ofNat i + 1 = Int32.ofNat (i + 1) := n_add i 1
theorem n_m1 (i : Nat) : Int32.ofNat (i + 1) + (-1) = Int32.ofNat i := by
  rw [← n_s, Int32.add_assoc]; show Int32.ofNat i + (1 + -1) = _; rw [show (1 : Int32) + -1 = 0 by decide, Int32.add_zero]
theorem n_m (i : Nat) : Int32.ofNat (i + 1) - 1 = Int32.ofNat i := by
  rw [Int32.sub_eq_add_neg]; exact n_m1 i
theorem n_64 {i : Nat} (h : i < 2147483648) : (Int32.ofNat i).toInt64 = Int64.ofNat i := by
  apply Int64.toInt_inj.mp
  rw [Int32.toInt_toInt64, n_i h, Int64.toInt_ofNat_of_lt (by omega)]
theorem n_nn {i : Nat} (h : i < 2147483648) : ¬ (Int32.ofNat i < 0) := by
  rw [show (0 : Int32) = Int32.ofNat 0 from rfl, n_lt h (by decide)]; omega
theorem n_p {i : Nat} (h : i < 2147483648) : 0 ≤ Int32.ofNat i := by
  rw [show (0 : Int32) = Int32.ofNat 0 from rfl, n_le (by decide) h]; omega
theorem n_ne1 {i : Nat} (h : i < 2147483648) : Int32.ofNat i ≠ -1 := by
  intro e
  have := congrArg Int32.toInt e
  rw [n_i h, show (-1 : Int32).toInt = -1 by decide] at this
  omega
theorem n_zin {i n : Nat} (h : i < 2147483648) : zin (Int32.ofNat i) n ↔ i < n := by
  have h1 := n_nn h
  simp only [zin, n_cl h]
  constructor
  · intro g; apply Nat.lt_of_not_le; intro h2; exact g (Or.inr h2)
  · rintro g (h2 | h2)
    · exact h1 h2
    · omega
/-- every int is small, or negative, or large -/
theorem n_cases (k : Int32) : k < 0 ∨ ∃ i, i < 2147483648 ∧ k = Int32.ofNat i := by
  by_cases h : k < 0
  · exact Or.inl h
  · right
    have h1 : 0 ≤ k.toInt := by
      rw [Int32.lt_iff_toInt_lt] at h
      have : (0 : Int32).toInt = 0 := by decide
      omega
    have h2 := Int32.toInt_lt k
    refine ⟨k.toInt.toNat, by omega, ?_⟩
    apply Int32.toInt_inj.mp
    rw [n_i (by omega)]
    omega
theorem lg_eq (x y : Int64) : lg_cmp x y = 0 ↔ x = y := by
  unfold lg_cmp
  split
  · rename_i h
    constructor
    · intro e; exact absurd e (by decide)
    · intro e; subst e; exact absurd h (by simp [Int64.lt_irrefl])
  · split
    · rename_i h; simp [h]
    · rename_i h; simp [h]
theorem lg_lt (x y : Int64) : lg_cmp x y < 0 ↔ x < y := by
  unfold lg_cmp
  have e1 : ¬ ((1 : Int32) < 0) := by decide
  have e2 : ((-1 : Int32) < 0) := by decide
  have e3 : ¬ ((0 : Int32) < 0) := by decide
  simp only [Int64.lt_iff_toInt_lt, GT.gt, ← Int64.toInt_inj]
  split
  · constructor
    · intro h; exact absurd h e1
    · intro h; omega
  · split
    · constructor
      · intro h; exact absurd h e3
      · intro h; omega
    · constructor
      · intro h; omega
      · intro h; exact e2
theorem lg_le (x y : Int64) : lg_cmp x y ≤ 0 ↔ x ≤ y := by
  unfold lg_cmp
  have e1 : ¬ ((1 : Int32) ≤ 0) := by decide
  have e2 : ((-1 : Int32) ≤ 0) := by decide
  have e3 : ((0 : Int32) ≤ 0) := by decide
  simp only [Int64.lt_iff_toInt_lt, Int64.le_iff_toInt_le, GT.gt, ← Int64.toInt_inj]
  split
  · constructor
    · intro h; exact absurd h e1
    · intro h; omega
  · split
    · constructor
      · intro h; omega
      · intro h; exact e3
    · constructor
      · intro h; omega
      · intro h; exact e2
theorem lg_ge (x y : Int64) : 0 ≤ lg_cmp x y ↔ y ≤ x := by
  unfold lg_cmp
  have e1 : ((0 : Int32) ≤ 1) := by decide
  have e2 : ¬ ((0 : Int32) ≤ -1) := by decide
  have e3 : ((0 : Int32) ≤ 0) := by decide
  simp only [Int64.lt_iff_toInt_lt, Int64.le_iff_toInt_le, GT.gt, ← Int64.toInt_inj]
  split
  · constructor
    · intro h; omega
    · intro h; exact e1
  · split
    · constructor
      · intro h; omega
      · intro h; exact e3
    · constructor
      · intro h; exact absurd h e2
      · intro h; omega
-- bits
def bl (x : Int64) (k : Nat) : Bool := x.toBitVec.getLsbD k
def bi (x : Int32) (k : Nat) : Bool := x.toBitVec.getLsbD k
theorem bl_ext {x y : Int64} (h : ∀ k < 64, bl x k = bl y k) : x = y := by
  apply Int64.toBitVec_inj.mp
  apply BitVec.eq_of_getLsbD_eq
  intro i hi
  exact h i hi
theorem bi_ext {x y : Int32} (h : ∀ k < 32, bi x k = bi y k) : x = y := by
  apply Int32.toBitVec_inj.mp
  apply BitVec.eq_of_getLsbD_eq
  intro i hi
  exact h i hi
theorem bl_and (x y : Int64) (k : Nat) : bl (x &&& y) k = (bl x k && bl y k) := by simp [bl]
theorem bl_or (x y : Int64) (k : Nat) : bl (x ||| y) k = (bl x k || bl y k) := by simp [bl]
theorem bi_and (x y : Int32) (k : Nat) : bi (x &&& y) k = (bi x k && bi y k) := by simp [bi]
theorem bi_or (x y : Int32) (k : Nat) : bi (x ||| y) k = (bi x k || bi y k) := by simp [bi]
theorem bl_xor (x y : Int64) (k : Nat) : bl (x ^^^ y) k = (bl x k ^^ bl y k) := by simp [bl]
theorem bi_xor (x y : Int32) (k : Nat) : bi (x ^^^ y) k = (bi x k ^^ bi y k) := by simp [bi]
theorem bl_m1 {k : Nat} (h : k < 64) : bl (-1) k = true := by
  have e : (-1 : Int64).toBitVec = BitVec.allOnes 64 := by decide
  unfold bl; rw [e, BitVec.getLsbD_allOnes]; simp [h]
theorem bi_m1 {k : Nat} (h : k < 32) : bi (-1) k = true := by
  have e : (-1 : Int32).toBitVec = BitVec.allOnes 32 := by decide
  unfold bi; rw [e, BitVec.getLsbD_allOnes]; simp [h]
theorem bl_not (x : Int64) {k : Nat} (h : k < 64) : bl (x ^^^ (-1)) k = !bl x k := by rw [bl_xor, bl_m1 h, Bool.xor_true]
theorem bi_not (x : Int32) {k : Nat} (h : k < 32) : bi (x ^^^ (-1)) k = !bi x k := by rw [bi_xor, bi_m1 h, Bool.xor_true]
theorem bl_0 (k : Nat) : bl 0 k = false := by simp [bl]
theorem bi_0 (k : Nat) : bi 0 k = false := by simp [bi]
theorem bl_hi (x : Int64) {k : Nat} (h : 64 ≤ k) : bl x k = false := BitVec.getLsbD_of_ge _ _ h
theorem bi_hi (x : Int32) {k : Nat} (h : 32 ≤ k) : bi x k = false := BitVec.getLsbD_of_ge _ _ h
theorem sh_63 {k : Nat} (h : k < 64) : (Int32.ofNat k).toInt64.toUInt64 &&& Int64.toUInt64 63 = UInt64.ofNat k := by
  rw [n_64 (by omega)]
  apply UInt64.toNat_inj.mp
  have e : (Int64.ofNat k).toUInt64 = UInt64.ofNat k := rfl
  rw [e, UInt64.toNat_and]
  have e2 : (Int64.toUInt64 63).toNat = 2 ^ 6 - 1 := by decide
  rw [e2, Nat.and_two_pow_sub_one_eq_mod, UInt64.toNat_ofNat']
  omega
theorem bl_u (x : Int64) {k : Nat} (h : k < 64) (j : Nat) : bl (zu_l x (Int32.ofNat k)) j = bl x (k + j) := by
  unfold zu_l bl
  rw [sh_63 h]
  have e : ((x.toUInt64 >>> UInt64.ofNat k).toInt64).toBitVec = x.toBitVec >>> k := by
    show (x.toUInt64 >>> UInt64.ofNat k).toBitVec = _
    rw [UInt64.toBitVec_shiftRight]
    apply BitVec.eq_of_toNat_eq
    simp [BitVec.toNat_ushiftRight]
    congr 1
    omega
  rw [e, BitVec.getLsbD_ushiftRight]
theorem sh_63' {k : Nat} (h : k < 64) : (Int32.ofNat k).toInt64 &&& 63 = Int64.ofNat k := by
  have := sh_63 h
  apply Int64.toBitVec_inj.mp
  have e := congrArg UInt64.toBitVec this
  exact e
theorem bl_r (x : Int64) {k : Nat} (h : k < 64) : bl (zr_l x (Int32.ofNat k)) 0 = bl x k := by
  unfold zr_l bl
  rw [sh_63' h, Int64.toBitVec_shiftRight]
  have e : ((Int64.ofNat k).toBitVec.smod 64).toNat = k := by
    rw [BitVec.smod_eq]
    have e0 : (Int64.ofNat k).toBitVec = BitVec.ofNat 64 k := rfl
    rw [e0]
    have e1 : (BitVec.ofNat 64 k).msb = false := by
      rw [BitVec.msb_eq_false_iff_two_mul_lt]; simp; omega
    have e2 : (64 : BitVec 64).msb = false := by decide
    rw [e1, e2]
    simp
    omega
  show (x.toBitVec.sshiftRight' _).getLsbD 0 = _
  rw [BitVec.sshiftRight_eq', e, BitVec.getLsbD_sshiftRight]
  simp
  omega
theorem bl_1 (j : Nat) : bl 1 j = decide (j = 0) := by
  rcases Nat.lt_or_ge j 64 with h | h
  · exact (by decide +kernel : ∀ i, i < 64 → bl 1 i = decide (i = 0)) j h
  · rw [bl_hi 1 h, decide_eq_false (by omega)]
theorem bi_1 (j : Nat) : bi 1 j = decide (j = 0) := by
  rcases Nat.lt_or_ge j 32 with h | h
  · exact (by decide +kernel : ∀ i, i < 32 → bi 1 i = decide (i = 0)) j h
  · rw [bi_hi 1 h, decide_eq_false (by omega)]
theorem bl_s {k : Nat} (h : k < 64) (x : Int64) {j : Nat} (hj : j < 64) : bl (zs_l x (Int32.ofNat k)) j = (decide (k ≤ j) && bl x (j - k)) := by
  unfold zs_l bl
  rw [sh_63' h, Int64.toBitVec_shiftLeft]
  have e : ((Int64.ofNat k).toBitVec.smod 64).toNat = k := by
    rw [BitVec.smod_eq]
    have e0 : (Int64.ofNat k).toBitVec = BitVec.ofNat 64 k := rfl
    rw [e0]
    have e1 : (BitVec.ofNat 64 k).msb = false := by
      rw [BitVec.msb_eq_false_iff_two_mul_lt]; simp; omega
    have e2 : (64 : BitVec 64).msb = false := by decide
    rw [e1, e2]
    simp
    omega
  show (x.toBitVec <<< ((Int64.ofNat k).toBitVec.smod 64).toNat).getLsbD j = _
  rw [e, BitVec.getLsbD_shiftLeft]
  rcases Nat.lt_or_ge j k with h | h
  · simp [h, Nat.not_le.mpr h]
  · simp [hj, h, Nat.not_lt.mpr h]
theorem bl_s1 {k : Nat} (h : k < 64) {j : Nat} (hj : j < 64) : bl (zs_l 1 (Int32.ofNat k)) j = decide (j = k) := by
  rw [bl_s h 1 hj, bl_1]
  by_cases e : j = k
  · subst e; simp
  · by_cases h2 : k ≤ j
    · simp [h2, e]; omega
    · simp [h2, e]
theorem sl_31 : ∀ n, n < 32 → ((Int32.ofNat n &&& 31).toBitVec.smod 32).toNat = n := by decide +kernel
theorem bi_s (x : Int32) {k : Nat} (h : k < 32) {j : Nat} (hj : j < 32) : bi (x <<< (Int32.ofNat k &&& 31)) j = (decide (k ≤ j) && bi x (j - k)) := by
  unfold bi
  rw [Int32.toBitVec_shiftLeft]
  show (x.toBitVec <<< ((Int32.ofNat k &&& 31).toBitVec.smod 32).toNat).getLsbD j = _
  rw [sl_31 k h, BitVec.getLsbD_shiftLeft]
  rcases Nat.lt_or_ge j k with h | h
  · simp [h, Nat.not_le.mpr h]
  · simp [hj, h, Nat.not_lt.mpr h]
theorem bi_s1 {k : Nat} (h : k < 32) {j : Nat} (hj : j < 32) : bi (1 <<< (Int32.ofNat k &&& 31)) j = decide (j = k) := by
  rw [bi_s 1 h hj, bi_1]
  by_cases e : j = k
  · subst e; simp
  · by_cases h2 : k ≤ j
    · simp [h2, e]; omega
    · simp [h2, e]
theorem bi_r (x : Int32) {k : Nat} (h : k < 32) : bi (x >>> (Int32.ofNat k &&& 31)) 0 = bi x k := by
  unfold bi
  rw [Int32.toBitVec_shiftRight]
  show (x.toBitVec.sshiftRight ((Int32.ofNat k &&& 31).toBitVec.smod 32).toNat).getLsbD 0 = _
  rw [sl_31 k h, BitVec.getLsbD_sshiftRight]
  simp
  omega
theorem and1_l (x : Int64) : x &&& 1 = if bl x 0 then 1 else 0 := by
  apply bl_ext
  intro k hk
  rw [bl_and, bl_1]
  by_cases e : k = 0
  · subst e
    cases h : bl x 0 <;> simp [bl_1, bl_0]
  · cases h : bl x 0 <;> simp [bl_1, bl_0, e]
theorem and1_i (x : Int32) : x &&& 1 = if bi x 0 then 1 else 0 := by
  apply bi_ext
  intro k hk
  rw [bi_and, bi_1]
  by_cases e : k = 0
  · subst e
    cases h : bi x 0 <;> simp [bi_1, bi_0]
  · cases h : bi x 0 <;> simp [bi_1, bi_0, e]
theorem bl_i (x : Int32) {k : Nat} (h : k < 32) : bl x.toInt64 k = bi x k := by
  unfold bl bi
  rw [Int32.toBitVec_toInt64, BitVec.getLsbD_signExtend]
  simp [h]
  omega
theorem t_u (x : Int64) {k : Nat} (h : k < 64) : lg_cmp ((zu_l x (Int32.ofNat k)) &&& 1) 1 = 0 ↔ bl x k = true := by
  rw [lg_eq, and1_l, bl_u x h, Nat.add_zero]
  cases bl x k <;> simp
theorem t_r1 (x : Int64) {k : Nat} (h : k < 64) : lg_cmp ((zr_l x (Int32.ofNat k)) &&& 1) 1 = 0 ↔ bl x k = true := by
  rw [lg_eq, and1_l, bl_r x h]
  cases bl x k <;> simp
theorem t_r0 (x : Int64) {k : Nat} (h : k < 64) : lg_cmp ((zr_l x (Int32.ofNat k)) &&& 1) 0 = 0 ↔ bl x k = false := by
  rw [lg_eq, and1_l, bl_r x h]
  cases bl x k <;> simp
theorem t_i (x : Int32) {k : Nat} (h : k < 32) : (x >>> (Int32.ofNat k &&& 31)) &&& 1 = 1 ↔ bi x k = true := by
  rw [and1_i, bi_r x h]
  cases bi x k <;> simp
def zB (b : Bool) : Int32 := if b then 1 else 0
theorem zB_t : zB true = 1 := rfl
theorem zB_f : zB false = 0 := rfl
theorem zB_0 (b : Bool) : zB b = 0 ↔ b = false := by cases b <;> decide
theorem zB_z (b : Bool) : zb_z (zB b) := by cases b <;> decide
theorem isIn_eq (x : Int64) {k : Nat} (h : k < 64) : f_V_isIn x (Int32.ofNat k) = some (zB (bl x k)) := by
  unfold f_V_isIn
  by_cases e : bl x k = true
  · rw [if_pos ((t_u x h).mpr e), e]; rfl
  · rw [if_neg (fun g => e ((t_u x h).mp g))]
    rw [Bool.not_eq_true] at e
    rw [e]; rfl
theorem nar_z {v : Int32} (h : zb_z v) : vp_nar .boolean v = v := by
  unfold vp_nar; rw [zb_n h]
theorem upd_at (f : Nat → Int32) (k : Nat) (x : Int32) : upd f k x k = x := by simp [upd]
theorem upd_ne (f : Nat → Int32) {k j : Nat} (x : Int32) (h : j ≠ k) : upd f k x j = f j := by simp [upd, h]
theorem updL_at (f : Nat → Int64) (k : Nat) (x : Int64) : vp_updL f k x k = x := by simp [vp_updL]
theorem updL_ne (f : Nat → Int64) {k j : Nat} (x : Int64) (h : j ≠ k) : vp_updL f k x j = f j := by simp [vp_updL, h]
theorem upd_self (f : Nat → Int32) (k : Nat) : upd f k (f k) = f := by
  funext j; unfold upd; split
  · rename_i h; rw [h]
  · rfl
theorem zfuel_lt {k : Nat} (h : k < 1000000000) : ∃ n, zfuel = n + (k + 1) := ⟨1000000000 - (k + 1), by unfold zfuel; omega⟩
theorem le_c (m : Nat) (hm : m < 2147483648) {i : Nat} (hi : i < 2147483648) : (OfNat.ofNat m : Int32) ≤ Int32.ofNat i ↔ m ≤ i := n_le hm hi
theorem lt_c (m : Nat) (hm : m < 2147483648) {i : Nat} (hi : i < 2147483648) : (OfNat.ofNat m : Int32) < Int32.ofNat i ↔ m < i := n_lt hm hi
theorem c_le (m : Nat) (hm : m < 2147483648) {i : Nat} (hi : i < 2147483648) : Int32.ofNat i ≤ (OfNat.ofNat m : Int32) ↔ i ≤ m := n_le hi hm
theorem c_lt (m : Nat) (hm : m < 2147483648) {i : Nat} (hi : i < 2147483648) : Int32.ofNat i < (OfNat.ofNat m : Int32) ↔ i < m := n_lt hi hm
theorem c_eq (m : Nat) (hm : m < 2147483648) {i : Nat} (hi : i < 2147483648) : Int32.ofNat i = (OfNat.ofNat m : Int32) ↔ i = m := n_eq hi hm

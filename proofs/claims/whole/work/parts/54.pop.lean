-- COUNTING BITS
def ct (P : Nat → Bool) : Nat → Nat
  | 0 => 0
  | i + 1 => ct P i + if P i then 1 else 0
theorem ct_add (P : Nat → Bool) (a : Nat) : ∀ b, ct P (a + b) = ct P a + ct (fun i => P (a + i)) b := by
  intro b
  induction b with
  | zero => rfl
  | succ b ih => rw [← Nat.add_assoc, ct, ih, ct]; omega
theorem ct_congr {P Q : Nat → Bool} : ∀ {n : Nat}, (∀ i < n, P i = Q i) → ct P n = ct Q n := by
  intro n
  induction n with
  | zero => intro _; rfl
  | succ n ih => intro h; rw [ct, ct, ih (fun i hi => h i (by omega)), h n (by omega)]
theorem ct_le (P : Nat → Bool) : ∀ n, ct P n ≤ n := by
  intro n
  induction n with
  | zero => exact Nat.le_refl _
  | succ n ih => rw [ct]; split <;> omega
theorem ct_off {P : Nat → Bool} {a : Nat} : ∀ {b : Nat}, (∀ i, a ≤ i → P i = false) → ct P (a + b) = ct P a := by
  intro b
  induction b with
  | zero => intro _; rfl
  | succ b ih => intro h; rw [← Nat.add_assoc, ct, ih h, h (a + b) (by omega)]; simp
def mk8 (m : Nat) : Nat → Nat
  | 0 => 0
  | k + 1 => m + 256 * mk8 m k
theorem land8 {a c : Nat} (ha : a < 256) (hc : c < 256) (b d : Nat) : (a + 256 * b) &&& (c + 256 * d) = (a &&& c) + 256 * (b &&& d) := by
  have hac : a &&& c < 256 := Nat.lt_of_le_of_lt Nat.and_le_left ha
  apply Nat.eq_of_testBit_eq
  intro i
  rw [Nat.testBit_and, Nat.add_comm a, Nat.add_comm c, Nat.add_comm (a &&& c)]
  rw [show (256 : Nat) = 2 ^ 8 from rfl] at *
  rw [Nat.testBit_two_pow_mul_add _ ha, Nat.testBit_two_pow_mul_add _ hc, Nat.testBit_two_pow_mul_add _ hac]
  split <;> rw [Nat.testBit_and]
def g1 (k x : Nat) : Nat := x - ((x / 2) &&& mk8 85 k)
def g2 (k a : Nat) : Nat := (a &&& mk8 51 k) + ((a / 4) &&& mk8 51 k)
def g3 (k a : Nat) : Nat := (a + a / 16) &&& mk8 15 k
def pc8 (B : Nat) : Nat := ct B.testBit 8
def q1 (B : Nat) : Nat := B - ((B / 2) &&& 85)
def q2 (B : Nat) : Nat := (q1 B &&& 51) + ((q1 B / 4) &&& 51)
theorem byte_ok : ∀ B, B < 256 → q1 B < 256 ∧ q2 B ≤ 68 ∧ q2 B % 16 ≤ 4 ∧ (q2 B + q2 B / 16) % 16 = pc8 B ∧ pc8 B ≤ 8 := by decide +kernel
theorem byte_h1 : ∀ B, B < 128 → (B + 128 * 0) &&& 85 = B &&& 85 ∧ (B + 128 * 1) &&& 85 = B &&& 85 := by decide +kernel
theorem byte_h2 : ∀ c, c < 4 → ∀ B, B < 64 → (B + 64 * c) &&& 51 = B &&& 51 := by decide +kernel
theorem g1_s {k B y : Nat} (hB : B < 256) : g1 (k + 1) (B + 256 * y) = q1 B + 256 * g1 k y := by
  unfold g1 q1
  have e : (B + 256 * y) / 2 = (B / 2 + 128 * (y % 2)) + 256 * (y / 2) := by omega
  rw [e, mk8, land8 (by omega) (by decide)]
  have e2 : (B / 2 + 128 * (y % 2)) &&& 85 = (B / 2) &&& 85 := by
    rcases Nat.mod_two_eq_zero_or_one y with h | h <;> rw [h]
    · exact (byte_h1 (B / 2) (by omega)).1
    · exact (byte_h1 (B / 2) (by omega)).2
  rw [e2]
  have l1 : (B / 2) &&& 85 ≤ B / 2 := Nat.and_le_left
  have l2 : (y / 2) &&& mk8 85 k ≤ y / 2 := Nat.and_le_left
  omega
theorem g2_s {k b c : Nat} (hb : b < 256) : g2 (k + 1) (b + 256 * c) = ((b &&& 51) + ((b / 4) &&& 51)) + 256 * g2 k c := by
  unfold g2
  have e : (b + 256 * c) / 4 = (b / 4 + 64 * (c % 4)) + 256 * (c / 4) := by omega
  rw [e, mk8, land8 hb (by decide), land8 (by omega) (by decide), byte_h2 (c % 4) (by omega) (b / 4) (by omega)]
  omega
theorem g3_s {k b c : Nat} (hb : b ≤ 68) (hc : c % 16 ≤ 4) : g3 (k + 1) (b + 256 * c) = (b + b / 16) % 16 + 256 * g3 k c := by
  unfold g3
  have e : (b + 256 * c) + (b + 256 * c) / 16 = (b + b / 16 + 16 * (c % 16)) + 256 * (c + c / 16) := by omega
  rw [e, mk8, land8 (by omega) (by decide), show (15 : Nat) = 2 ^ 4 - 1 from rfl, Nat.and_two_pow_sub_one_eq_mod]
  omega
def pcv : Nat → Nat → Nat
  | 0, _ => 0
  | k + 1, x => pc8 (x % 256) + 256 * pcv k (x / 256)
def pcs : Nat → Nat → Nat
  | 0, _ => 0
  | k + 1, x => pc8 (x % 256) + pcs k (x / 256)
theorem pcs_ct : ∀ k x, pcs k x = ct x.testBit (8 * k) := by
  intro k
  induction k with
  | zero => intro x; rfl
  | succ k ih =>
    intro x
    rw [pcs, ih, show 8 * (k + 1) = 8 + 8 * k by omega, ct_add, pc8]
    congr 1
    · apply ct_congr
      intro i hi
      rw [show (256 : Nat) = 2 ^ 8 from rfl, Nat.testBit_mod_two_pow]; simp [hi]
    · apply ct_congr
      intro i hi
      rw [show (256 : Nat) = 2 ^ 8 from rfl, Nat.testBit_div_two_pow, Nat.add_comm]
theorem stages : ∀ k x, x < 256 ^ k → g3 k (g2 k (g1 k x)) = pcv k x ∧ g2 k (g1 k x) % 16 ≤ 4 := by
  intro k
  induction k with
  | zero =>
    intro x hx
    have : x = 0 := by simpa using hx
    subst this
    decide
  | succ k ih =>
    intro x hx
    have hb := byte_ok (x % 256) (Nat.mod_lt _ (by decide))
    have hy : x / 256 < 256 ^ k := by
      rw [Nat.pow_succ] at hx
      exact Nat.div_lt_of_lt_mul (by rw [Nat.mul_comm]; exact hx)
    obtain ⟨i1, i2⟩ := ih (x / 256) hy
    have e : x = x % 256 + 256 * (x / 256) := by omega
    have e1 : g1 (k + 1) x = q1 (x % 256) + 256 * g1 k (x / 256) := by
      conv => lhs; rw [e]
      exact g1_s (Nat.mod_lt _ (by decide))
    have e2 : g2 (k + 1) (g1 (k + 1) x) = q2 (x % 256) + 256 * g2 k (g1 k (x / 256)) := by
      rw [e1, g2_s hb.1]; rfl
    have e3 : g3 (k + 1) (g2 (k + 1) (g1 (k + 1) x)) = pcv (k + 1) x := by
      rw [e2, g3_s hb.2.1 i2, i1, hb.2.2.2.1, pcv]
    refine ⟨e3, ?_⟩
    rw [e2]
    have h3 := hb.2.2.1
    generalize q2 (x % 256) = q at h3 ⊢
    generalize g2 k (g1 k (x / 256)) = h
    exact (show ∀ q h : Nat, q % 16 ≤ 4 → (q + 256 * h) % 16 ≤ 4 by intro q h h3; omega) q h h3
theorem nat_of_i (v : Int32) : ∃ N, N < 4294967296 ∧ v = Int32.ofNat N ∧ ∀ k < 32, bi v k = N.testBit k := by
  refine ⟨v.toBitVec.toNat, v.toBitVec.isLt, ?_, fun k hk => ?_⟩
  · apply Int32.toBitVec_inj.mp
    show v.toBitVec = BitVec.ofNat 32 v.toBitVec.toNat
    simp
  · unfold bi; rfl
theorem nat_of_l (v : Int64) : ∃ N, N < 18446744073709551616 ∧ v = Int64.ofNat N ∧ ∀ k < 64, bl v k = N.testBit k := by
  refine ⟨v.toBitVec.toNat, v.toBitVec.isLt, ?_, fun k hk => ?_⟩
  · apply Int64.toBitVec_inj.mp
    show v.toBitVec = BitVec.ofNat 64 v.toBitVec.toNat
    simp
  · unfold bl; rfl
theorem sh_31 {k : Nat} (h : k < 32) : (Int32.ofNat k).toUInt32 &&& Int32.toUInt32 31 = UInt32.ofNat k := by
  have : ∀ n, n < 32 → (Int32.ofNat n).toUInt32 &&& Int32.toUInt32 31 = UInt32.ofNat n := by decide +kernel
  exact this k h
theorem bi_u (x : Int32) {k : Nat} (h : k < 32) (j : Nat) : bi (zu_i x (Int32.ofNat k)) j = bi x (k + j) := by
  unfold zu_i bi
  rw [sh_31 h]
  have e : ((x.toUInt32 >>> UInt32.ofNat k).toInt32).toBitVec = x.toBitVec >>> k := by
    show (x.toUInt32 >>> UInt32.ofNat k).toBitVec = _
    rw [UInt32.toBitVec_shiftRight]
    apply BitVec.eq_of_toNat_eq
    simp [BitVec.toNat_ushiftRight]
    congr 1
    omega
  rw [e, BitVec.getLsbD_ushiftRight]
theorem ui_n {N k : Nat} (hN : N < 4294967296) (hk : k < 32) : zu_i (Int32.ofNat N) (Int32.ofNat k) = Int32.ofNat (N / 2 ^ k) := by
  apply bi_ext
  intro j hj
  rw [bi_u _ hk, bi_n _ hj, Nat.testBit_div_two_pow]
  rcases Nat.lt_or_ge (k + j) 32 with h | h
  · rw [bi_n _ h, Nat.add_comm]
  · rw [bi_hi _ h]
    symm
    apply Nat.testBit_lt_two_pow
    exact Nat.lt_of_lt_of_le hN (Nat.le_trans (by decide : 4294967296 ≤ 2 ^ 32) (Nat.pow_le_pow_right (by decide) (by omega)))
theorem andi_n (M N : Nat) : Int32.ofNat M &&& Int32.ofNat N = Int32.ofNat (M &&& N) := by
  apply bi_ext
  intro j hj
  rw [bi_and, bi_n _ hj, bi_n _ hj, bi_n _ hj, Nat.testBit_and]
theorem subi_n {M N : Nat} (h : N ≤ M) : Int32.ofNat M - Int32.ofNat N = Int32.ofNat (M - N) := (Int32.ofNat_sub M N h).symm
theorem subl_n {M N : Nat} (h : N ≤ M) : Int64.ofNat M - Int64.ofNat N = Int64.ofNat (M - N) := (Int64.ofNat_sub M N h).symm
theorem addl_n (M N : Nat) : Int64.ofNat M + Int64.ofNat N = Int64.ofNat (M + N) := (Int64.ofNat_add M N).symm
def i1 (k : Int32) : Int32 := k - ((zu_i k 1) &&& 1431655765)
def i2 (a : Int32) : Int32 := (a &&& 858993459) + ((zu_i a 2) &&& 858993459)
def i3 (a : Int32) : Int32 := (a + zu_i a 4) &&& 252645135
def i4 (a : Int32) : Int32 := a + zu_i a 8
def i5 (a : Int32) : Int32 := a + zu_i a 16
theorem bcI_i (k : Int32) : f_JI_bitCount k = some (i5 (i4 (i3 (i2 (i1 k)))) &&& 63) := rfl
theorem g1_le (k x : Nat) : g1 k x ≤ x := Nat.sub_le _ _
theorem dv {m a X : Nat} (h : a < m) : (a + m * X) / m = X := by
  rw [Nat.add_mul_div_left _ _ (by omega), Nat.div_eq_of_lt h, Nat.zero_add]
theorem mdl {m a X : Nat} (h : a < m) : (a + m * X) % m = a := by
  rw [Nat.add_mul_mod_self_left, Nat.mod_eq_of_lt h]
theorem popI_end {p0 p1 p2 p3 Q : Nat} (b0 : p0 ≤ 8) (b1 : p1 ≤ 8) (b2 : p2 ≤ 8) (b3 : p3 ≤ 8) (ep : Q = p0 + 256 * (p1 + 256 * (p2 + 256 * (p3 + 256 * 0)))) : some (i5 (i4 (Int32.ofNat Q)) &&& 63) = some (Int32.ofNat (p0 + (p1 + (p2 + (p3 + 0))))) := by
  have lp : Q < 4294967296 := by omega
  have d1 : Q / 2 ^ 8 = p1 + 256 * (p2 + 256 * (p3 + 256 * 0)) := by rw [ep]; exact dv (by omega)
  have d2 : Q + Q / 2 ^ 8 = ((p0 + p1) + 256 * (p1 + p2)) + 65536 * (p2 + p3 + 256 * p3) := by rw [d1, ep]; omega
  have d3 : (Q + Q / 2 ^ 8) / 2 ^ 16 = p2 + p3 + 256 * p3 := by rw [d2]; exact dv (by omega)
  have lq : Q + Q / 2 ^ 8 < 4294967296 := by rw [d2]; omega
  have d4 : (Q + Q / 2 ^ 8 + (Q + Q / 2 ^ 8) / 2 ^ 16) % 2 ^ 6 = p0 + (p1 + (p2 + (p3 + 0))) := by
    rw [d3, d2, show p0 + p1 + 256 * (p1 + p2) + 65536 * (p2 + p3 + 256 * p3) + (p2 + p3 + 256 * p3) = (p0 + (p1 + (p2 + (p3 + 0)))) + 2 ^ 6 * (4 * (p1 + p2) + 1024 * (p2 + p3 + 256 * p3) + 4 * p3) by omega]
    exact mdl (by omega)
  unfold i5 i4
  rw [show (8 : Int32) = Int32.ofNat 8 from rfl, ui_n lp (by decide), n_add]
  rw [show (16 : Int32) = Int32.ofNat 16 from rfl, ui_n lq (by decide), n_add, show (63 : Int32) = Int32.ofNat (2 ^ 6 - 1) from rfl, andi_n, Nat.and_two_pow_sub_one_eq_mod, d4]
theorem popI (v : Int32) : f_JI_bitCount v = some (Int32.ofNat (ct (bi v) 32)) := by
  obtain ⟨N, hN, rfl, hb⟩ := nat_of_i v
  rw [bcI_i]
  obtain ⟨h1, h2⟩ := stages 4 N (by simpa using hN)
  have e1 : i1 (Int32.ofNat N) = Int32.ofNat (g1 4 N) := by
    unfold i1 g1
    rw [show (1 : Int32) = Int32.ofNat 1 from rfl, ui_n hN (by decide), show (1431655765 : Int32) = Int32.ofNat (mk8 85 4) from rfl, andi_n, subi_n]
    exact Nat.le_trans Nat.and_le_left (Nat.div_le_self _ _)
  have l1 : g1 4 N < 4294967296 := Nat.lt_of_le_of_lt (g1_le _ _) hN
  have e2 : i2 (Int32.ofNat (g1 4 N)) = Int32.ofNat (g2 4 (g1 4 N)) := by
    unfold i2 g2
    rw [show (2 : Int32) = Int32.ofNat 2 from rfl, ui_n l1 (by decide), show (858993459 : Int32) = Int32.ofNat (mk8 51 4) from rfl, andi_n, andi_n, n_add]
  have l2 : g2 4 (g1 4 N) < 4294967296 := by
    have a1 : (g1 4 N &&& mk8 51 4) ≤ mk8 51 4 := Nat.and_le_right
    have a2 : ((g1 4 N / 4) &&& mk8 51 4) ≤ mk8 51 4 := Nat.and_le_right
    have a3 : mk8 51 4 = 858993459 := rfl
    unfold g2
    omega
  have e3 : i3 (Int32.ofNat (g2 4 (g1 4 N))) = Int32.ofNat (pcv 4 N) := by
    rw [← h1]
    unfold i3 g3
    rw [show (4 : Int32) = Int32.ofNat 4 from rfl, ui_n l2 (by decide), show (252645135 : Int32) = Int32.ofNat (mk8 15 4) from rfl, n_add, andi_n]
  rw [e1, e2, e3]
  have b0 := (byte_ok (N % 256) (Nat.mod_lt _ (by decide))).2.2.2.2
  have b1 := (byte_ok (N / 256 % 256) (Nat.mod_lt _ (by decide))).2.2.2.2
  have b2 := (byte_ok (N / 256 / 256 % 256) (Nat.mod_lt _ (by decide))).2.2.2.2
  have b3 := (byte_ok (N / 256 / 256 / 256 % 256) (Nat.mod_lt _ (by decide))).2.2.2.2
  have ep : pcv 4 N = pc8 (N % 256) + 256 * (pc8 (N / 256 % 256) + 256 * (pc8 (N / 256 / 256 % 256) + 256 * (pc8 (N / 256 / 256 / 256 % 256) + 256 * 0))) := rfl
  have es : pcs 4 N = pc8 (N % 256) + (pc8 (N / 256 % 256) + (pc8 (N / 256 / 256 % 256) + (pc8 (N / 256 / 256 / 256 % 256) + 0))) := rfl
  generalize pc8 (N % 256) = p0 at *
  generalize pc8 (N / 256 % 256) = p1 at *
  generalize pc8 (N / 256 / 256 % 256) = p2 at *
  generalize pc8 (N / 256 / 256 / 256 % 256) = p3 at *
  have ec : ct (bi (Int32.ofNat N)) 32 = pcs 4 N := by
    rw [pcs_ct]; exact ct_congr hb
  rw [ec, es]
  exact popI_end b0 b1 b2 b3 ep
def l1 (k : Int64) : Int64 := k - ((zu_l k 1) &&& 6148914691236517205)
def l2 (a : Int64) : Int64 := (a &&& 3689348814741910323) + ((zu_l a 2) &&& 3689348814741910323)
def l3 (a : Int64) : Int64 := (a + zu_l a 4) &&& 1085102592571150095
def l4 (a : Int64) : Int64 := a + zu_l a 8
def l5 (a : Int64) : Int64 := a + zu_l a 16
def l6 (a : Int64) : Int64 := a + zu_l a 32
theorem bcL_l (k : Int64) : f_JL_bitCount k = some ((l6 (l5 (l4 (l3 (l2 (l1 k)))))).toInt32 &&& 127) := rfl
theorem popL_end {p0 p1 p2 p3 p4 p5 p6 p7 Q : Nat} (b0 : p0 ≤ 8) (b1 : p1 ≤ 8) (b2 : p2 ≤ 8) (b3 : p3 ≤ 8) (b4 : p4 ≤ 8) (b5 : p5 ≤ 8) (b6 : p6 ≤ 8) (b7 : p7 ≤ 8) (ep : Q = p0 + 256 * (p1 + 256 * (p2 + 256 * (p3 + 256 * (p4 + 256 * (p5 + 256 * (p6 + 256 * (p7 + 256 * 0)))))))) : some ((l6 (l5 (l4 (Int64.ofNat Q)))).toInt32 &&& 127) = some (Int32.ofNat (p0 + (p1 + (p2 + (p3 + (p4 + (p5 + (p6 + (p7 + 0))))))))) := by
  have lp : Q < 18446744073709551616 := by rw [ep]; omega
  have d1 : Q / 2 ^ 8 = p1 + 256 * (p2 + 256 * (p3 + 256 * (p4 + 256 * (p5 + 256 * (p6 + 256 * (p7 + 256 * 0)))))) := by rw [ep]; exact dv (by omega)
  have d2 : Q + Q / 2 ^ 8 = ((p0 + p1) + 256 * (p1 + p2)) + 65536 * ((p2 + p3) + 256 * (p3 + p4) + 65536 * (p4 + p5) + 16777216 * (p5 + p6) + 4294967296 * (p6 + p7) + 1099511627776 * p7) := by rw [d1, ep]; omega
  have d3 : (Q + Q / 2 ^ 8) / 2 ^ 16 = (p2 + p3) + 256 * (p3 + p4) + 65536 * (p4 + p5) + 16777216 * (p5 + p6) + 4294967296 * (p6 + p7) + 1099511627776 * p7 := by rw [d2]; clear d2 d1 lp ep; exact dv (by omega)
  have lq : Q + Q / 2 ^ 8 < 18446744073709551616 := by rw [d2]; clear d3 d2 d1 lp ep; omega
  have d4 : (Q + Q / 2 ^ 8) + (Q + Q / 2 ^ 8) / 2 ^ 16 = ((p0 + p1 + p2 + p3) + 256 * (p1 + p2 + p3 + p4) + 65536 * (p2 + p3 + p4 + p5) + 16777216 * (p3 + p4 + p5 + p6)) + 4294967296 * ((p4 + p5 + p6 + p7) + 256 * (p5 + p6 + p7) + 65536 * (p6 + p7) + 16777216 * p7) := by rw [d3, d2]; clear d3 d2 d1 lp lq ep; omega
  have d5 : (Q + Q / 2 ^ 8 + (Q + Q / 2 ^ 8) / 2 ^ 16) / 2 ^ 32 = (p4 + p5 + p6 + p7) + 256 * (p5 + p6 + p7) + 65536 * (p6 + p7) + 16777216 * p7 := by rw [d4, show (2 : Nat) ^ 32 = 4294967296 from rfl]; clear d4 d3 d2 d1 lp lq ep; exact dv (by omega)
  have lr : Q + Q / 2 ^ 8 + (Q + Q / 2 ^ 8) / 2 ^ 16 < 18446744073709551616 := by rw [d4]; clear d5 d4 d3 d2 d1 lp lq ep; omega
  have d6 : (Q + Q / 2 ^ 8 + (Q + Q / 2 ^ 8) / 2 ^ 16 + (Q + Q / 2 ^ 8 + (Q + Q / 2 ^ 8) / 2 ^ 16) / 2 ^ 32) % 2 ^ 7 = p0 + (p1 + (p2 + (p3 + (p4 + (p5 + (p6 + (p7 + 0))))))) := by
    rw [d5, d4, show ((p0 + p1 + p2 + p3) + 256 * (p1 + p2 + p3 + p4) + 65536 * (p2 + p3 + p4 + p5) + 16777216 * (p3 + p4 + p5 + p6)) + 4294967296 * ((p4 + p5 + p6 + p7) + 256 * (p5 + p6 + p7) + 65536 * (p6 + p7) + 16777216 * p7) + ((p4 + p5 + p6 + p7) + 256 * (p5 + p6 + p7) + 65536 * (p6 + p7) + 16777216 * p7) = (p0 + (p1 + (p2 + (p3 + (p4 + (p5 + (p6 + (p7 + 0)))))))) + 2 ^ 7 * (2 * (p1 + p2 + p3 + p4) + 512 * (p2 + p3 + p4 + p5) + 131072 * (p3 + p4 + p5 + p6) + 33554432 * ((p4 + p5 + p6 + p7) + 256 * (p5 + p6 + p7) + 65536 * (p6 + p7) + 16777216 * p7) + 2 * (p5 + p6 + p7) + 512 * (p6 + p7) + 131072 * p7) by clear lr d5 d4 d3 d2 d1 lp lq ep; omega]
    clear lr d5 d4 d3 d2 d1 lp lq ep
    exact mdl (by omega)
  unfold l6 l5 l4
  rw [show (8 : Int32) = Int32.ofNat 8 from rfl, u_n lp (by decide), addl_n]
  rw [show (16 : Int32) = Int32.ofNat 16 from rfl, u_n lq (by decide), addl_n]
  rw [show (32 : Int32) = Int32.ofNat 32 from rfl, u_n lr (by decide), addl_n, Int64.toInt32_ofNat', show (127 : Int32) = Int32.ofNat (2 ^ 7 - 1) from rfl, andi_n, Nat.and_two_pow_sub_one_eq_mod, d6]
theorem popL (v : Int64) : f_JL_bitCount v = some (Int32.ofNat (ct (bl v) 64)) := by
  obtain ⟨N, hN, rfl, hb⟩ := nat_of_l v
  rw [bcL_l]
  obtain ⟨h1, h2⟩ := stages 8 N (by simpa using hN)
  have e1 : l1 (Int64.ofNat N) = Int64.ofNat (g1 8 N) := by
    unfold l1 g1
    rw [show (1 : Int32) = Int32.ofNat 1 from rfl, u_n hN (by decide), show (6148914691236517205 : Int64) = Int64.ofNat (mk8 85 8) from rfl, and_n, subl_n]
    exact Nat.le_trans Nat.and_le_left (Nat.div_le_self _ _)
  have k1 : g1 8 N < 18446744073709551616 := Nat.lt_of_le_of_lt (g1_le _ _) hN
  have e2 : l2 (Int64.ofNat (g1 8 N)) = Int64.ofNat (g2 8 (g1 8 N)) := by
    unfold l2 g2
    rw [show (2 : Int32) = Int32.ofNat 2 from rfl, u_n k1 (by decide), show (3689348814741910323 : Int64) = Int64.ofNat (mk8 51 8) from rfl, and_n, and_n, addl_n]
  have k2 : g2 8 (g1 8 N) < 18446744073709551616 := by
    have a1 : (g1 8 N &&& mk8 51 8) ≤ mk8 51 8 := Nat.and_le_right
    have a2 : ((g1 8 N / 4) &&& mk8 51 8) ≤ mk8 51 8 := Nat.and_le_right
    have a3 : mk8 51 8 = 3689348814741910323 := rfl
    unfold g2
    omega
  have e3 : l3 (Int64.ofNat (g2 8 (g1 8 N))) = Int64.ofNat (pcv 8 N) := by
    rw [← h1]
    unfold l3 g3
    rw [show (4 : Int32) = Int32.ofNat 4 from rfl, u_n k2 (by decide), show (1085102592571150095 : Int64) = Int64.ofNat (mk8 15 8) from rfl, addl_n, and_n]
  rw [e1, e2, e3]
  have ec : ct (bl (Int64.ofNat N)) 64 = pcs 8 N := by
    rw [pcs_ct]; exact ct_congr hb
  rw [ec]
  have bb : ∀ x, pc8 (x % 256) ≤ 8 := fun x => (byte_ok (x % 256) (Nat.mod_lt _ (by decide))).2.2.2.2
  have ep : ∃ p0 p1 p2 p3 p4 p5 p6 p7, p0 ≤ 8 ∧ p1 ≤ 8 ∧ p2 ≤ 8 ∧ p3 ≤ 8 ∧ p4 ≤ 8 ∧ p5 ≤ 8 ∧ p6 ≤ 8 ∧ p7 ≤ 8 ∧ pcv 8 N = p0 + 256 * (p1 + 256 * (p2 + 256 * (p3 + 256 * (p4 + 256 * (p5 + 256 * (p6 + 256 * (p7 + 256 * 0))))))) ∧ pcs 8 N = p0 + (p1 + (p2 + (p3 + (p4 + (p5 + (p6 + (p7 + 0))))))) :=
    ⟨_, _, _, _, _, _, _, _, bb _, bb _, bb _, bb _, bb _, bb _, bb _, bb _, rfl, rfl⟩
  obtain ⟨p0, p1, p2, p3, p4, p5, p6, p7, b0, b1, b2, b3, b4, b5, b6, b7, ep, es⟩ := ep
  rw [es]
  exact popL_end b0 b1 b2 b3 b4 b5 b6 b7 ep

-- CHANGES
def KOK (k : Int32) (z : Int64) : Prop := k = 0 ∨ k = 1 ∨ k = 2 ∨ (k = 3 ∧ ∃ e, e < 32 ∧ z = Int64.ofNat e) ∨ (k = 4 ∧ ∃ e, e < 32 ∧ z = Int64.ofNat e) ∨ (k = 5 ∧ ∃ e, e < 16 ∧ z = Int64.ofNat e) ∨ k = 6 ∨ k = 7 ∨ k = 8 ∨ k = 9 ∨ k = 10
theorem l_small {z : Int64} {m : Nat} (hm : m < 2147483648) (h0 : ¬ (z < 0)) (h1 : ¬ (Int64.ofNat m ≤ z)) : ∃ e, e < m ∧ z = Int64.ofNat e := by
  rw [Int64.lt_iff_toInt_lt, show (0 : Int64).toInt = 0 by decide] at h0
  rw [Int64.le_iff_toInt_le, Int64.toInt_ofNat_of_lt (by omega)] at h1
  refine ⟨z.toInt.toNat, by omega, ?_⟩
  apply Int64.toInt_inj.mp
  rw [Int64.toInt_ofNat_of_lt (by omega)]
  omega
theorem le31 (z : Int64) : z ≤ 31 ↔ ¬ ((32 : Int64) ≤ z) := by
  rw [Int64.le_iff_toInt_le, Int64.le_iff_toInt_le, show (31 : Int64).toInt = 31 by decide, show (32 : Int64).toInt = 32 by decide]; omega
theorem le15 (z : Int64) : z ≤ 15 ↔ ¬ ((16 : Int64) ≤ z) := by
  rw [Int64.le_iff_toInt_le, Int64.le_iff_toInt_le, show (15 : Int64).toInt = 15 by decide, show (16 : Int64).toInt = 16 by decide]; omega
theorem small_k {k : Int32} (h0 : ¬ (k < 0)) (h1 : ¬ (10 < k)) (h3 : k ≠ 3) (h4 : k ≠ 4) (h5 : k ≠ 5) (z : Int64) : KOK k z := by
  rcases n_cases k with h | ⟨i, hi, rfl⟩
  · exact absurd h h0
  · rw [lt_c 10 (by decide) hi] at h1
    have e3 : i ≠ 3 := fun g => h3 (by rw [g]; rfl)
    have e4 : i ≠ 4 := fun g => h4 (by rw [g]; rfl)
    have e5 : i ≠ 5 := fun g => h5 (by rw [g]; rfl)
    unfold KOK
    have : i = 0 ∨ i = 1 ∨ i = 2 ∨ i = 6 ∨ i = 7 ∨ i = 8 ∨ i = 9 ∨ i = 10 := by omega
    rcases this with rfl | rfl | rfl | rfl | rfl | rfl | rfl | rfl
    · exact Or.inl rfl
    · exact Or.inr (Or.inl rfl)
    · exact Or.inr (Or.inr (Or.inl rfl))
    · exact Or.inr (Or.inr (Or.inr (Or.inr (Or.inr (Or.inr (Or.inl rfl))))))
    · exact Or.inr (Or.inr (Or.inr (Or.inr (Or.inr (Or.inr (Or.inr (Or.inl rfl)))))))
    · exact Or.inr (Or.inr (Or.inr (Or.inr (Or.inr (Or.inr (Or.inr (Or.inr (Or.inl rfl))))))))
    · exact Or.inr (Or.inr (Or.inr (Or.inr (Or.inr (Or.inr (Or.inr (Or.inr (Or.inr (Or.inl rfl)))))))))
    · exact Or.inr (Or.inr (Or.inr (Or.inr (Or.inr (Or.inr (Or.inr (Or.inr (Or.inr (Or.inr rfl)))))))))
/-- the bounds of a change: both refuse, or both go on -/
theorem inb (ρ : RSt) (a k : Int32) (z : Int64) : (f_H_isInBounds k z = some 0 ∧ (f_R_change ρ a k z = J_R_change_56_9 ρ a k z 1 ∨ (f_R_change ρ a k z = J_R_change_56_9 ρ a k z 0 ∧ (k < 0 ∨ 10 < k)))) ∨ (f_H_isInBounds k z = some 1 ∧ KOK k z ∧ ¬ (k < 0) ∧ ¬ (10 < k) ∧ f_R_change ρ a k z = J_R_change_56_9 ρ a k z 0) := by
  unfold f_H_isInBounds f_R_change
  simp only [lg_lt, lg_ge, lg_le, le31, le15]
  by_cases h3 : k = 3
  · rw [if_pos h3, if_pos h3]
    by_cases h0 : z < 0
    · rw [if_pos h0, if_pos h0]; exact Or.inl ⟨rfl, Or.inl rfl⟩
    · rw [if_neg h0, if_neg h0]
      by_cases h1 : (32 : Int64) ≤ z
      · rw [if_pos h1, if_neg (fun g => g h1)]; exact Or.inl ⟨rfl, Or.inl rfl⟩
      · rw [if_neg h1, if_pos h1]
        refine Or.inr ⟨rfl, Or.inr (Or.inr (Or.inr (Or.inl ⟨h3, l_small (m := 32) (by decide) h0 h1⟩))), ?_, ?_, rfl⟩ <;> rw [h3] <;> decide
  · rw [if_neg h3, if_neg h3]
    by_cases h4 : k = 4
    · rw [if_pos h4, if_pos h4]
      by_cases h0 : z < 0
      · rw [if_pos h0, if_pos h0]; exact Or.inl ⟨rfl, Or.inl rfl⟩
      · rw [if_neg h0, if_neg h0]
        by_cases h1 : (32 : Int64) ≤ z
        · rw [if_pos h1, if_neg (fun g => g h1)]; exact Or.inl ⟨rfl, Or.inl rfl⟩
        · rw [if_neg h1, if_pos h1]
          refine Or.inr ⟨rfl, Or.inr (Or.inr (Or.inr (Or.inr (Or.inl ⟨h4, l_small (m := 32) (by decide) h0 h1⟩)))), ?_, ?_, rfl⟩ <;> rw [h4] <;> decide
    · rw [if_neg h4, if_neg h4]
      by_cases h5 : k = 5
      · rw [if_pos h5, if_pos h5]
        by_cases h0 : z < 0
        · rw [if_pos h0, if_pos h0]; exact Or.inl ⟨rfl, Or.inl rfl⟩
        · rw [if_neg h0, if_neg h0]
          by_cases h1 : (16 : Int64) ≤ z
          · rw [if_pos h1, if_neg (fun g => g h1)]; exact Or.inl ⟨rfl, Or.inl rfl⟩
          · rw [if_neg h1, if_pos h1]
            refine Or.inr ⟨rfl, Or.inr (Or.inr (Or.inr (Or.inr (Or.inr (Or.inl ⟨h5, l_small (m := 16) (by decide) h0 h1⟩))))), ?_, ?_, rfl⟩ <;> rw [h5] <;> decide
      · rw [if_neg h5, if_neg h5]
        by_cases h0 : k < 0
        · rw [if_pos h0]; exact Or.inl ⟨rfl, Or.inr ⟨rfl, Or.inl h0⟩⟩
        · rw [if_neg h0]
          by_cases h1 : 10 < k
          · rw [if_pos h1]; exact Or.inl ⟨rfl, Or.inr ⟨rfl, Or.inr h1⟩⟩
          · rw [if_neg h1]
            exact Or.inr ⟨rfl, small_k h0 h1 h3 h4 h5 z, h0, h1, rfl⟩
theorem toI {e : Nat} : (Int64.ofNat e).toInt32 = Int32.ofNat e := Int64.toInt32_ofNat' ..
/-- what is wanted of the tree for a change -/
def FIT (x : TreeV) (k : Int32) (z : Int64) : Prop := (k = 3 → ∃ e, e < 32 ∧ z = Int64.ofNat e ∧ bi x.2.2.2.2.1 e = false) ∧ (k = 4 → ∃ e, e < 32 ∧ z = Int64.ofNat e ∧ bi x.2.2.2.2.1 e = true) ∧ (k = 5 → ∃ e l, e < 16 ∧ z = Int64.ofNat e ∧ zTl x l ∧ l.length < 8) ∧ (k = 6 → ∃ l, zTl x l ∧ l ≠ [])
section
variable {ρ : RSt} {t : Nat}
theorem u0 (j : Int32) : J_R_unfit_49_4 ρ (Int32.ofNat t) 0 j = some 0 := by
  unfold J_R_unfit_49_4
  rw [if_neg (show ¬ ((0 : Int32) = 3) by decide), if_neg (show ¬ ((0 : Int32) = 4) by decide), if_neg (show ¬ ((0 : Int32) = 5) by decide), if_neg (show ¬ ((0 : Int32) = 6) by decide), if_neg (show ¬ ((0 : Int32) = 8) by decide)]
theorem u1 (j : Int32) : J_R_unfit_49_4 ρ (Int32.ofNat t) 1 j = some 0 := by
  unfold J_R_unfit_49_4
  rw [if_neg (show ¬ ((1 : Int32) = 3) by decide), if_neg (show ¬ ((1 : Int32) = 4) by decide), if_neg (show ¬ ((1 : Int32) = 5) by decide), if_neg (show ¬ ((1 : Int32) = 6) by decide), if_neg (show ¬ ((1 : Int32) = 8) by decide)]
theorem u2 (j : Int32) : J_R_unfit_49_4 ρ (Int32.ofNat t) 2 j = some 0 := by
  unfold J_R_unfit_49_4
  rw [if_neg (show ¬ ((2 : Int32) = 3) by decide), if_neg (show ¬ ((2 : Int32) = 4) by decide), if_neg (show ¬ ((2 : Int32) = 5) by decide), if_neg (show ¬ ((2 : Int32) = 6) by decide), if_neg (show ¬ ((2 : Int32) = 8) by decide)]
theorem u7 (j : Int32) : J_R_unfit_49_4 ρ (Int32.ofNat t) 7 j = some 0 := by
  unfold J_R_unfit_49_4
  rw [if_neg (show ¬ ((7 : Int32) = 3) by decide), if_neg (show ¬ ((7 : Int32) = 4) by decide), if_neg (show ¬ ((7 : Int32) = 5) by decide), if_neg (show ¬ ((7 : Int32) = 6) by decide), if_neg (show ¬ ((7 : Int32) = 8) by decide)]
theorem u9 (j : Int32) : J_R_unfit_49_4 ρ (Int32.ofNat t) 9 j = some 0 := by
  unfold J_R_unfit_49_4
  rw [if_neg (show ¬ ((9 : Int32) = 3) by decide), if_neg (show ¬ ((9 : Int32) = 4) by decide), if_neg (show ¬ ((9 : Int32) = 5) by decide), if_neg (show ¬ ((9 : Int32) = 6) by decide), if_neg (show ¬ ((9 : Int32) = 8) by decide)]
theorem u10 (j : Int32) : J_R_unfit_49_4 ρ (Int32.ofNat t) 10 j = some 0 := by
  unfold J_R_unfit_49_4
  rw [if_neg (show ¬ ((10 : Int32) = 3) by decide), if_neg (show ¬ ((10 : Int32) = 4) by decide), if_neg (show ¬ ((10 : Int32) = 5) by decide), if_neg (show ¬ ((10 : Int32) = 6) by decide), if_neg (show ¬ ((10 : Int32) = 8) by decide)]
theorem u3 (j : Int32) : J_R_unfit_49_4 ρ (Int32.ofNat t) 3 j = if j = 0 then some 0 else some 1 := by
  unfold J_R_unfit_49_4
  rw [if_pos rfl]
  by_cases hj : j = 0
  · rw [if_pos hj, if_neg (show ¬ ((3 : Int32) = 4) by decide), if_neg (show ¬ ((3 : Int32) = 5) by decide), if_neg (show ¬ ((3 : Int32) = 6) by decide), if_neg (show ¬ ((3 : Int32) = 8) by decide), if_pos hj]
  · rw [if_neg hj, if_neg hj]
theorem u4 (j : Int32) : J_R_unfit_49_4 ρ (Int32.ofNat t) 4 j = if j = 0 then some 1 else some 0 := by
  unfold J_R_unfit_49_4
  rw [if_neg (show ¬ ((4 : Int32) = 3) by decide), if_pos rfl]
  by_cases hj : j = 0
  · rw [if_pos hj, if_pos hj]
  · rw [if_neg hj, if_neg (show ¬ ((4 : Int32) = 5) by decide), if_neg (show ¬ ((4 : Int32) = 6) by decide), if_neg (show ¬ ((4 : Int32) = 8) by decide), if_neg hj]
theorem u5 (ht : t < 67) (j : Int32) : J_R_unfit_49_4 ρ (Int32.ofNat t) 5 j = if j = 0 then (if ρ.1.1.2.2 t = 8 then some 1 else some 0) else some 1 := by
  have wt : zin (Int32.ofNat t) 67 := (n_zin (by omega)).mpr ht
  have es : ρ.1.1.2.2 (Int32.ofNat t).toNatClampNeg = ρ.1.1.2.2 t := by rw [n_cl (show t < 2147483648 by omega)]
  have et : ρ.1.2.1.1.2 (Int32.ofNat t).toNatClampNeg = ρ.1.2.1.1.2 t := by rw [n_cl (show t < 2147483648 by omega)]
  unfold J_R_unfit_49_4
  rw [if_neg (show ¬ ((5 : Int32) = 3) by decide), if_neg (show ¬ ((5 : Int32) = 4) by decide), if_pos rfl, if_pos wt, es]
  by_cases hj : j = 0
  · rw [if_pos hj, if_pos hj]
    by_cases h8 : ρ.1.1.2.2 t = 8
    · rw [if_pos h8, if_pos h8]
    · rw [if_neg h8, if_neg (show ¬ ((5 : Int32) = 6) by decide), if_neg (show ¬ ((5 : Int32) = 8) by decide), if_neg h8]
  · rw [if_neg hj, if_neg hj]
theorem u6 (ht : t < 67) (j : Int32) : J_R_unfit_49_4 ρ (Int32.ofNat t) 6 j = if ρ.1.1.2.2 t = 0 then some 1 else some 0 := by
  have wt : zin (Int32.ofNat t) 67 := (n_zin (by omega)).mpr ht
  have es : ρ.1.1.2.2 (Int32.ofNat t).toNatClampNeg = ρ.1.1.2.2 t := by rw [n_cl (show t < 2147483648 by omega)]
  have et : ρ.1.2.1.1.2 (Int32.ofNat t).toNatClampNeg = ρ.1.2.1.1.2 t := by rw [n_cl (show t < 2147483648 by omega)]
  unfold J_R_unfit_49_4
  rw [if_neg (show ¬ ((6 : Int32) = 3) by decide), if_neg (show ¬ ((6 : Int32) = 4) by decide), if_neg (show ¬ ((6 : Int32) = 5) by decide), if_pos rfl, if_pos wt, es]
  by_cases h8 : ρ.1.1.2.2 t = 0
  · rw [if_pos h8, if_pos h8]
  · rw [if_neg h8, if_neg (show ¬ ((6 : Int32) = 8) by decide), if_neg h8]
theorem u8 (ht : t < 67) (j : Int32) : J_R_unfit_49_4 ρ (Int32.ofNat t) 8 j = if ρ.1.2.1.1.2 t = 0 then some 1 else some 0 := by
  have wt : zin (Int32.ofNat t) 67 := (n_zin (by omega)).mpr ht
  have es : ρ.1.1.2.2 (Int32.ofNat t).toNatClampNeg = ρ.1.1.2.2 t := by rw [n_cl (show t < 2147483648 by omega)]
  have et : ρ.1.2.1.1.2 (Int32.ofNat t).toNatClampNeg = ρ.1.2.1.1.2 t := by rw [n_cl (show t < 2147483648 by omega)]
  unfold J_R_unfit_49_4
  rw [if_neg (show ¬ ((8 : Int32) = 3) by decide), if_neg (show ¬ ((8 : Int32) = 4) by decide), if_neg (show ¬ ((8 : Int32) = 5) by decide), if_neg (show ¬ ((8 : Int32) = 6) by decide), if_pos rfl, if_pos wt, et]
end
theorem fit_eq {ρ : RSt} {t : Nat} {x : TreeV} (ht : t < 67) (h : zTr ρ t x) {k : Int32} {z : Int64} (hk : KOK k z) : ∃ b : Bool, f_H_fits x k z = some (zB b) ∧ f_R_unfit ρ (Int32.ofNat t) k z = some (zB (!b)) ∧ (b = true → FIT x k z) := by
  obtain ⟨⟨c1, c2, c3, c4, c5, c6, c7, c8, c9⟩, l, hl, hq⟩ := h
  have wt : zin (Int32.ofNat t) 67 := (n_zin (by omega)).mpr ht
  have kt := n_cl (show t < 2147483648 by omega)
  have hl8 := hl.1.1
  have h10 : ¬ ((1 : Int32) = 0) := by decide
  have triv : ∀ k : Int32, k ≠ 3 → k ≠ 4 → k ≠ 5 → k ≠ 6 → FIT x k z := fun k a b c d => ⟨fun g => absurd g a, fun g => absurd g b, fun g => absurd g c, fun g => absurd g d⟩
  have es : ρ.1.1.2.1.2 (Int32.ofNat t).toNatClampNeg = ρ.1.1.2.1.2 t := by rw [kt]
  unfold f_R_unfit f_H_fits
  rw [if_pos wt, es]
  rcases hk with rfl | rfl | rfl | ⟨rfl, e, he, rfl⟩ | ⟨rfl, e, he, rfl⟩ | ⟨rfl, e, he, rfl⟩ | rfl | rfl | rfl | rfl | rfl
  · rw [if_neg (show ¬ ((0 : Int32) = 3) by decide), if_neg (show ¬ ((0 : Int32) = 4) by decide), if_neg (show ¬ ((0 : Int32) = 5) by decide), if_neg (show ¬ ((0 : Int32) = 6) by decide), if_neg (show ¬ ((0 : Int32) = 7) by decide), if_neg (show ¬ ((0 : Int32) = 8) by decide), if_neg (show ¬ ((5 : Int32) ≤ 0) by decide), u0, u0, ite_self]
    exact ⟨true, rfl, rfl, fun _ => triv 0 (by decide) (by decide) (by decide) (by decide)⟩
  · rw [if_neg (show ¬ ((1 : Int32) = 3) by decide), if_neg (show ¬ ((1 : Int32) = 4) by decide), if_neg (show ¬ ((1 : Int32) = 5) by decide), if_neg (show ¬ ((1 : Int32) = 6) by decide), if_neg (show ¬ ((1 : Int32) = 7) by decide), if_neg (show ¬ ((1 : Int32) = 8) by decide), if_neg (show ¬ ((5 : Int32) ≤ 1) by decide), u1, u1, ite_self]
    exact ⟨true, rfl, rfl, fun _ => triv 1 (by decide) (by decide) (by decide) (by decide)⟩
  · rw [if_neg (show ¬ ((2 : Int32) = 3) by decide), if_neg (show ¬ ((2 : Int32) = 4) by decide), if_neg (show ¬ ((2 : Int32) = 5) by decide), if_neg (show ¬ ((2 : Int32) = 6) by decide), if_neg (show ¬ ((2 : Int32) = 7) by decide), if_neg (show ¬ ((2 : Int32) = 8) by decide), if_neg (show ¬ ((5 : Int32) ≤ 2) by decide), u2, u2, ite_self]
    exact ⟨true, rfl, rfl, fun _ => triv 2 (by decide) (by decide) (by decide) (by decide)⟩
  · rw [if_pos rfl, if_neg (show ¬ ((5 : Int32) ≤ 3) by decide), f_T_setAsSum, ob, toI, isIn_eq _ (by omega), ob, bl_set _ (by omega), decide_eq_true he, Bool.true_and, c5, u3, u3]
    cases hb : bi x.2.2.2.2.1 e with
    | true =>
      rw [if_pos ((t_r1 _ (by omega)).mpr (by rw [bl_set _ (by omega), decide_eq_true he, Bool.true_and, hb])), zB_t, if_neg h10, if_neg h10]
      exact ⟨false, rfl, rfl, fun g => by cases g⟩
    | false =>
      have hn : ¬ (lg_cmp ((zr_l (x.2.2.2.2.1.toInt64 &&& 4294967295) (Int32.ofNat e)) &&& 1) 1 = 0) := fun g => by rw [t_r1 _ (by omega), bl_set _ (by omega), decide_eq_true he, Bool.true_and, hb] at g; cases g
      rw [zB_f, if_pos rfl, if_neg hn, if_pos rfl]
      exact ⟨true, rfl, rfl, fun _ => ⟨fun _ => ⟨e, he, rfl, hb⟩, fun g => absurd g (by decide), fun g => absurd g (by decide), fun g => absurd g (by decide)⟩⟩
  · rw [if_neg (show ¬ ((4 : Int32) = 3) by decide), if_pos rfl, if_neg (show ¬ ((5 : Int32) ≤ 4) by decide), f_T_setAsSum, ob, toI, isIn_eq _ (by omega), ob, bl_set _ (by omega), decide_eq_true he, Bool.true_and, c5, if_pos (zB_z _), u4, u4]
    cases hb : bi x.2.2.2.2.1 e with
    | true =>
      rw [if_pos ((t_r1 _ (by omega)).mpr (by rw [bl_set _ (by omega), decide_eq_true he, Bool.true_and, hb])), if_neg h10]
      exact ⟨true, rfl, rfl, fun _ => ⟨fun g => absurd g (by decide), fun _ => ⟨e, he, rfl, hb⟩, fun g => absurd g (by decide), fun g => absurd g (by decide)⟩⟩
    | false =>
      have hn : ¬ (lg_cmp ((zr_l (x.2.2.2.2.1.toInt64 &&& 4294967295) (Int32.ofNat e)) &&& 1) 1 = 0) := fun g => by rw [t_r1 _ (by omega), bl_set _ (by omega), decide_eq_true he, Bool.true_and, hb] at g; cases g
      rw [if_neg hn, if_pos rfl]
      exact ⟨false, rfl, rfl, fun g => by cases g⟩
  · rw [if_neg (show ¬ ((5 : Int32) = 3) by decide), if_neg (show ¬ ((5 : Int32) = 4) by decide), if_pos rfl, if_pos (show ((5 : Int32) ≤ 5) by decide), if_pos rfl, hl.2.1, members_eq hl.1, ob, toI, isIn_eq _ (by omega), ob, bl_i _ (by omega), mm_bit _ _ _ (by omega) hl.1.2, bi_0, Bool.false_or, placeOf_eq ht hl.1 hq (by omega), ob, length_eq hl.1, u5 ht, u5 ht]
    by_cases hm : e ∈ l
    · rw [decide_eq_true hm, zB_t, if_neg h10, if_neg h10, if_neg (fun g => (place_neg hl.1 e).mp g hm)]
      exact ⟨false, rfl, rfl, fun g => by cases g⟩
    · rw [decide_eq_false hm, zB_f, if_pos rfl, if_pos rfl, if_pos ((place_neg hl.1 e).mpr hm), ob]
      by_cases h8 : l.length = 8
      · have g8 : ρ.1.1.2.2 t = 8 := by rw [hq.1, h8]; rfl
        rw [if_pos ((le_c 8 (by decide) (by omega)).mpr (by omega)), if_pos g8]
        exact ⟨false, rfl, rfl, fun g => by cases g⟩
      · have g8 : ¬ (ρ.1.1.2.2 t = 8) := by rw [hq.1, c_eq 8 (by decide) (by omega)]; exact h8
        rw [if_neg (fun g => absurd ((le_c 8 (by decide) (by omega)).mp g) (by omega)), if_neg g8]
        exact ⟨true, rfl, rfl, fun _ => ⟨fun g => absurd g (by decide), fun g => absurd g (by decide), fun _ => ⟨e, l, he, rfl, hl, by omega⟩, fun g => absurd g (by decide)⟩⟩
  · rw [if_neg (show ¬ ((6 : Int32) = 3) by decide), if_neg (show ¬ ((6 : Int32) = 4) by decide), if_neg (show ¬ ((6 : Int32) = 5) by decide), if_pos rfl, if_pos (show ((5 : Int32) ≤ 6) by decide), if_neg (show ¬ ((6 : Int32) = 5) by decide), hl.2.1, length_eq hl.1, ob, u6 ht]
    by_cases h0 : l.length = 0
    · have g0 : ρ.1.1.2.2 t = 0 := by rw [hq.1, h0]; rfl
      rw [if_pos ((c_le 0 (by decide) (by omega)).mpr (by omega)), if_pos g0]
      exact ⟨false, rfl, rfl, fun g => by cases g⟩
    · have g0 : ¬ (ρ.1.1.2.2 t = 0) := by rw [hq.1, c_eq 0 (by decide) (by omega)]; exact h0
      rw [if_neg (fun g => absurd ((c_le 0 (by decide) (by omega)).mp g) (by omega)), if_neg g0]
      exact ⟨true, rfl, rfl, fun _ => ⟨fun g => absurd g (by decide), fun g => absurd g (by decide), fun g => absurd g (by decide), fun _ => ⟨l, hl, fun g => h0 (by rw [g]; rfl)⟩⟩⟩
  · rw [if_neg (show ¬ ((7 : Int32) = 3) by decide), if_neg (show ¬ ((7 : Int32) = 4) by decide), if_neg (show ¬ ((7 : Int32) = 5) by decide), if_neg (show ¬ ((7 : Int32) = 6) by decide), if_pos rfl, if_pos (show ((5 : Int32) ≤ 7) by decide), if_neg (show ¬ ((7 : Int32) = 5) by decide), u7]
    exact ⟨true, rfl, rfl, fun _ => triv 7 (by decide) (by decide) (by decide) (by decide)⟩
  · rw [if_neg (show ¬ ((8 : Int32) = 3) by decide), if_neg (show ¬ ((8 : Int32) = 4) by decide), if_neg (show ¬ ((8 : Int32) = 5) by decide), if_neg (show ¬ ((8 : Int32) = 6) by decide), if_neg (show ¬ ((8 : Int32) = 7) by decide), if_pos rfl, if_pos (show ((5 : Int32) ≤ 8) by decide), if_neg (show ¬ ((8 : Int32) = 5) by decide), u8 ht, if_pos hl.2.2.1]
    rcases hl.2.2.1 with g | g
    · rw [if_pos (c6.trans g), g]
      exact ⟨false, rfl, rfl, fun g => by cases g⟩
    · rw [if_neg (show ¬ (ρ.1.2.1.1.2 t = 0) by rw [c6, g]; decide), g]
      exact ⟨true, rfl, rfl, fun _ => triv 8 (by decide) (by decide) (by decide) (by decide)⟩
  · rw [if_neg (show ¬ ((9 : Int32) = 3) by decide), if_neg (show ¬ ((9 : Int32) = 4) by decide), if_neg (show ¬ ((9 : Int32) = 5) by decide), if_neg (show ¬ ((9 : Int32) = 6) by decide), if_neg (show ¬ ((9 : Int32) = 7) by decide), if_neg (show ¬ ((9 : Int32) = 8) by decide), if_pos (show ((5 : Int32) ≤ 9) by decide), if_neg (show ¬ ((9 : Int32) = 5) by decide), u9]
    exact ⟨true, rfl, rfl, fun _ => triv 9 (by decide) (by decide) (by decide) (by decide)⟩
  · rw [if_neg (show ¬ ((10 : Int32) = 3) by decide), if_neg (show ¬ ((10 : Int32) = 4) by decide), if_neg (show ¬ ((10 : Int32) = 5) by decide), if_neg (show ¬ ((10 : Int32) = 6) by decide), if_neg (show ¬ ((10 : Int32) = 7) by decide), if_neg (show ¬ ((10 : Int32) = 8) by decide), if_pos (show ((5 : Int32) ≤ 10) by decide), if_neg (show ¬ ((10 : Int32) = 5) by decide), u10]
    exact ⟨true, rfl, rfl, fun _ => triv 10 (by decide) (by decide) (by decide) (by decide)⟩

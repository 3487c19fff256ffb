-- HASHES
theorem bl_rj (x : Int64) {k : Nat} (h : k < 64) {j : Nat} (hj : k + j < 64) : bl (zr_l x (Int32.ofNat k)) j = bl x (k + j) := by
  unfold zr_l bl
  rw [sh_63' h, Int64.toBitVec_shiftRight]
  have e : ((Int64.ofNat k).toBitVec.smod 64).toNat = k := by
    rw [BitVec.smod_eq]
    have e0 : (Int64.ofNat k).toBitVec = BitVec.ofNat 64 k := rfl
    rw [e0]
    have e1 : (BitVec.ofNat 64 k).msb = false := by
      rw [BitVec.msb_eq_false_iff_two_mul_lt]; simp; omega
    have e2 : (64 : BitVec 64).msb = false := by decide
    rw [e1, e2]
    simp
    omega
  show (x.toBitVec.sshiftRight' _).getLsbD j = _
  rw [BitVec.sshiftRight_eq', e, BitVec.getLsbD_sshiftRight, if_pos hj, decide_eq_false (show ¬ (64 ≤ j) by omega)]
  rfl
theorem bl_255 : ∀ k, k < 64 → bl 255 k = decide (k < 8) := by decide +kernel
theorem u255 (y : Int64) {k : Nat} (h : k ≤ 56) : (zu_l y (Int32.ofNat k)) &&& 255 = (zr_l y (Int32.ofNat k)) &&& 255 := by
  apply bl_ext
  intro j hj
  rw [bl_and, bl_and, bl_255 j hj]
  by_cases e : j < 8
  · rw [bl_u _ (by omega), bl_rj _ (by omega) (by omega)]
  · simp [e]
theorem mix_L (y : Int64) : ∀ (j i : Nat), i + j = 8 → ∀ (a : Int64) n, ∃ w1 w2 r, L_C_mixed_6 y (n + (j + 1)) (Int32.ofNat (8 * i)) a = some (w1, r) ∧ L_R_mix_6 y (n + (j + 1)) (Int32.ofNat i) a = some (w2, r) := by
  intro j
  induction j with
  | zero =>
    intro i hi a n
    have e : i = 8 := by omega
    subst e
    rw [L_C_mixed_6, L_R_mix_6, if_pos (by decide), if_pos (by decide)]
    exact ⟨_, _, _, rfl, rfl⟩
  | succ j ih =>
    intro i hi a n
    rw [show n + (j + 1 + 1) = (n + (j + 1)) + 1 by omega, L_C_mixed_6, L_R_mix_6, if_neg (fun g => absurd ((le_c 64 (by decide) (by omega)).mp g) (by omega)), if_neg (fun g => absurd ((le_c 8 (by decide) (by omega)).mp g) (by omega))]
    rw [show (8 : Int32) * Int32.ofNat i = Int32.ofNat (8 * i) from n_mul 8 i, u255 y (by omega), show Int32.ofNat (8 * i) + 8 = Int32.ofNat (8 * (i + 1)) from (n_add (8 * i) 8).trans (by rw [Nat.mul_add]), n_s]
    exact ih (i + 1) (by omega) _ n
def mx (x y : Int64) : Int64 := (f_R_mix x y).getD 0
theorem mix_both (x y : Int64) : f_C_mixed x y = some (mx x y) ∧ f_R_mix x y = some (mx x y) := by
  have : ∃ r, f_C_mixed x y = some r ∧ f_R_mix x y = some r := by
    unfold f_C_mixed f_R_mix
    obtain ⟨n, hn⟩ := zfuel_lt (k := 8) (by omega)
    rw [hn]
    obtain ⟨w1, w2, r, h1, h2⟩ := mix_L y 8 0 rfl x n
    rw [show L_C_mixed_6 y (n + (8 + 1)) 0 x = some (w1, r) from h1, show L_R_mix_6 y (n + (8 + 1)) 0 x = some (w2, r) from h2]
    exact ⟨r, rfl, rfl⟩
  obtain ⟨r, h1, h2⟩ := this
  unfold mx
  rw [h2]
  exact ⟨h1, rfl⟩
theorem row_L {ρ : RSt} {c : Nat} {l : List Nat} (hc : c < 67) (h : ql l) (hq : zqr ρ c l) : ∀ (j : Nat), j ≤ l.length → ∀ n, ∃ w, L_R_hashOf_157 ρ (Int32.ofNat c) (n + (j + 1)) (dn j) (Int64.ofNat (pk (l.drop j))) = some (w, Int64.ofNat (pk l)) := by
  intro j
  have hl := h.1
  induction j with
  | zero =>
    intro hj n
    rw [L_R_hashOf_157, if_pos (by decide)]
    exact ⟨_, rfl⟩
  | succ j ih =>
    intro hj n
    rw [show n + (j + 1 + 1) = (n + (j + 1)) + 1 by omega, L_R_hashOf_157, show dn (j + 1) = Int32.ofNat j from rfl, if_neg (n_nn (by omega))]
    have e : l[j]? = some l[j] := List.getElem?_eq_getElem (by omega)
    have h16 := qn_ne h e
    rw [eight, if_pos ((n_zin (by omega)).mpr (by omega)), n_cl (by omega), hq.2 j _ e, n_64 (by omega), dn_s]
    have := ih (by omega) n
    rw [drop_get e, pk] at this
    rw [show (32 : Int64) * Int64.ofNat (pk (l.drop (j + 1))) + 1 + Int64.ofNat l[j] = Int64.ofNat (1 + l[j] + 32 * pk (l.drop (j + 1))) from ?_]
    · exact this
    · rw [show (32 : Int64) = Int64.ofNat 32 from rfl, show (1 : Int64) = Int64.ofNat 1 from rfl, ← Int64.ofNat_mul, addl_n, addl_n]
      congr 1
      omega
theorem h93 {ρ : RSt} {c : Nat} {x : TreeV} (hc : c < 60) (h : zTr ρ c x) (z : Int64) : ∃ r, f_C_hashWithTree (mx z (Int64.ofNat (c + 1))) x = some r ∧ J_R_hashOf_93 ρ (Int32.ofNat c) z = some r := by
  obtain ⟨⟨c1, c2, c3, c4, c5, c6, c7, c8, c9⟩, l, hl, hq⟩ := h
  have wc : zin (Int32.ofNat c) 67 := (n_zin (by omega)).mpr (by omega)
  have kc := n_cl (show c < 2147483648 by omega)
  have hl8 := hl.1.1
  unfold f_C_hashWithTree J_R_hashOf_93 J_C_hashWithTree_70 J_R_hashOf_223 J_R_hashOf_245 f_T_setAsSum
  obtain ⟨n, hn⟩ := zfuel_lt (k := l.length) (by omega)
  obtain ⟨w, hw⟩ := row_L (show c < 67 by omega) hl.1 hq l.length (Nat.le_refl _) n
  rw [List.drop_length] at hw
  have hw' : L_R_hashOf_157 ρ (Int32.ofNat c) zfuel (Int32.ofNat l.length - 1) 0 = some (w, Int64.ofNat (pk l)) := by
    rw [hn, Int32.sub_eq_add_neg, dn_s]; exact hw
  simp only [if_pos wc, kc, c1, c2, c3, c4, c5, c6, c7, c8, c9, hq.1, hw', (mix_both _ _).1, (mix_both _ _).2, ob, hl.2.1]
  rw [show (Int32.ofNat c).toInt64 + 1 = Int64.ofNat (c + 1) from by rw [n_64 (by omega)]; exact addl_n c 1]
  rcases hl.2.2.1 with e | e
  · simp only [e, if_true, hl.2.2.2 e]
    exact ⟨_, rfl, rfl⟩
  · have h10 : ¬ ((1 : Int32) = 0) := by decide
    simp only [e, if_neg h10]
    exact ⟨_, rfl, rfl⟩
theorem hashOf_nn {ρ : RSt} {c : Nat} (hc : c < 60) (h1 : ρ.2.1.1.1.1 c = -1) (h2 : ρ.2.1.1.1.2 c = -1) : f_R_hashOf ρ (Int32.ofNat c) = J_R_hashOf_93 ρ (Int32.ofNat c) (mx (-3750763034362895579) (0 + 0)) := by
  have wc : zin (Int32.ofNat c) 60 := (n_zin (by omega)).mpr hc
  have kc := n_cl (show c < 2147483648 by omega)
  have d1 : ρ.2.1.1.1.1 (Int32.ofNat c).toNatClampNeg < 0 := by rw [kc, h1]; decide
  have d2 : ρ.2.1.1.1.2 (Int32.ofNat c).toNatClampNeg < 0 := by rw [kc, h2]; decide
  unfold f_R_hashOf
  rw [if_pos wc, if_pos d1]
  unfold J_R_hashOf_17
  rw [if_pos wc, if_pos d2]
  unfold J_R_hashOf_31
  rw [(mix_both _ _).2, ob, if_pos wc, if_pos d1]
  unfold J_R_hashOf_64
  rw [if_pos wc, if_pos d2]
theorem hashOf_rn {ρ : RSt} {c p : Nat} (hc : c < 60) (hp : p < 60) (h1 : ρ.2.1.1.1.1 c = Int32.ofNat p) (h2 : ρ.2.1.1.1.2 c = -1) : f_R_hashOf ρ (Int32.ofNat c) = J_R_hashOf_93 ρ (Int32.ofNat c) (mx (mx (-3750763034362895579) (1 + 0)) (ρ.2.1.2.1.1 p)) := by
  have wc : zin (Int32.ofNat c) 60 := (n_zin (by omega)).mpr hc
  have kc := n_cl (show c < 2147483648 by omega)
  have f1 : ρ.2.1.1.1.1 (Int32.ofNat c).toNatClampNeg = Int32.ofNat p := by rw [kc, h1]
  have d1 : ¬ (ρ.2.1.1.1.1 (Int32.ofNat c).toNatClampNeg < 0) := by rw [f1]; exact n_nn (by omega)
  have w1 : zin (ρ.2.1.1.1.1 (Int32.ofNat c).toNatClampNeg) 60 := by rw [f1]; exact (n_zin (by omega)).mpr hp
  have k1 : (ρ.2.1.1.1.1 (Int32.ofNat c).toNatClampNeg).toNatClampNeg = p := by rw [f1]; exact n_cl (by omega)
  have d2 : ρ.2.1.1.1.2 (Int32.ofNat c).toNatClampNeg < 0 := by rw [kc, h2]; decide
  unfold f_R_hashOf
  rw [if_pos wc, if_neg d1]
  unfold J_R_hashOf_17
  rw [if_pos wc, if_pos d2]
  unfold J_R_hashOf_31
  rw [(mix_both _ _).2, ob, if_pos wc, if_neg d1, if_pos wc, if_pos w1, (mix_both _ _).2, ob, k1]
  unfold J_R_hashOf_64
  rw [if_pos wc, if_pos d2]
theorem hashOf_rr {ρ : RSt} {c p q : Nat} (hc : c < 60) (hp : p < 60) (hq : q < 60) (h1 : ρ.2.1.1.1.1 c = Int32.ofNat p) (h2 : ρ.2.1.1.1.2 c = Int32.ofNat q) : f_R_hashOf ρ (Int32.ofNat c) = J_R_hashOf_93 ρ (Int32.ofNat c) (mx (mx (mx (-3750763034362895579) (1 + 1)) (ρ.2.1.2.1.1 p)) (ρ.2.1.2.1.1 q)) := by
  have wc : zin (Int32.ofNat c) 60 := (n_zin (by omega)).mpr hc
  have kc := n_cl (show c < 2147483648 by omega)
  have f1 : ρ.2.1.1.1.1 (Int32.ofNat c).toNatClampNeg = Int32.ofNat p := by rw [kc, h1]
  have d1 : ¬ (ρ.2.1.1.1.1 (Int32.ofNat c).toNatClampNeg < 0) := by rw [f1]; exact n_nn (by omega)
  have w1 : zin (ρ.2.1.1.1.1 (Int32.ofNat c).toNatClampNeg) 60 := by rw [f1]; exact (n_zin (by omega)).mpr hp
  have k1 : (ρ.2.1.1.1.1 (Int32.ofNat c).toNatClampNeg).toNatClampNeg = p := by rw [f1]; exact n_cl (by omega)
  have f2 : ρ.2.1.1.1.2 (Int32.ofNat c).toNatClampNeg = Int32.ofNat q := by rw [kc, h2]
  have d2 : ¬ (ρ.2.1.1.1.2 (Int32.ofNat c).toNatClampNeg < 0) := by rw [f2]; exact n_nn (by omega)
  have w2 : zin (ρ.2.1.1.1.2 (Int32.ofNat c).toNatClampNeg) 60 := by rw [f2]; exact (n_zin (by omega)).mpr hq
  have k2 : (ρ.2.1.1.1.2 (Int32.ofNat c).toNatClampNeg).toNatClampNeg = q := by rw [f2]; exact n_cl (by omega)
  unfold f_R_hashOf
  rw [if_pos wc, if_neg d1]
  unfold J_R_hashOf_17
  rw [if_pos wc, if_neg d2]
  unfold J_R_hashOf_31
  rw [(mix_both _ _).2, ob, if_pos wc, if_neg d1, if_pos wc, if_pos w1, (mix_both _ _).2, ob, k1]
  unfold J_R_hashOf_64
  rw [if_pos wc, if_neg d2, if_pos wc, if_pos w2, (mix_both _ _).2, ob, k2]
theorem i00 : (0 : Int64) + 0 = 0 := by decide
theorem i10 : (1 : Int64) + 0 = 1 := by decide
theorem i11 : (1 : Int64) + 1 = 2 := by decide

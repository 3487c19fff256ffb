-- THE RELATION
def PAR (σ : VSt) (i : Nat) (o : Option Nat) (v : Int32) : Prop := (o = none ∧ v = -1) ∨ ∃ p y, p < i ∧ v = Int32.ofNat p ∧ σ.2.2.1 p = some y ∧ o = some y
/-- commit i: its object, its cells, its tree -/
def CM1 (σ : VSt) (ρ : RSt) (cm : Nat → Option ComV) (tm : Nat → Option TreeV) (i y : Nat) (c : ComV) (t : TreeV) : Prop := σ.2.2.1 i = some y ∧ cm y = some c ∧ tm c.2.2.2.2.1 = some t ∧ zTr ρ i t ∧ c.1 = Int32.ofNat i ∧ c.2.1 = Int32.ofNat (i + 1) ∧ PAR σ i c.2.2.1 (ρ.2.1.1.1.1 i) ∧ PAR σ i c.2.2.2.1 (ρ.2.1.1.1.2 i) ∧ c.2.2.2.2.2.1 = ρ.2.1.1.2 i ∧ c.2.2.2.2.2.2 = ρ.2.1.2.1.1 i ∧ (∀ k, i < k → bl (ρ.2.1.1.2 i) k = false) ∧ bl (ρ.2.1.1.2 i) i = true
def CMT (n : Nat) (σ : VSt) (ρ : RSt) (cm : Nat → Option ComV) (tm : Nat → Option TreeV) : Prop := ∀ i < n, ∃ y c t, CM1 σ ρ cm tm i y c t
section
variable {n : Nat} {σ : VSt} {ρ : RSt} {cm : Nat → Option ComV} {tm : Nat → Option TreeV} {em : TreeV}
theorem isCommit_y (hn : n ≤ 60) (hσ : σ.1 = Int32.ofNat n) {i : Nat} (hi : i < n) : f_V_isCommit em cm tm σ (Int32.ofNat i) = some 1 := by
  unfold f_V_isCommit
  rw [if_neg (n_nn (by omega)), hσ, if_neg (fun g => absurd ((n_le (by omega) (by omega)).mp g) (by omega))]
theorem isCommit_n (hn : n ≤ 60) (hσ : σ.1 = Int32.ofNat n) {k : Int32} (hk : ∀ i, i < n → k ≠ Int32.ofNat i) : f_V_isCommit em cm tm σ k = some 0 := by
  unfold f_V_isCommit
  rcases n_cases k with h | ⟨i, hi, rfl⟩
  · rw [if_pos h]
  · rw [if_neg (n_nn hi), hσ, if_pos ((n_le (by omega) hi).mpr (Nat.le_of_not_lt (fun g => hk i g rfl)))]
theorem risCommit_y (hn : n ≤ 60) (hρ : ρ.1.2.2.2 = Int32.ofNat n) {i : Nat} (hi : i < n) : f_R_isCommit ρ (Int32.ofNat i) = some 1 := by
  unfold f_R_isCommit
  rw [if_neg (n_nn (by omega)), hρ, if_neg (fun g => absurd ((n_le (by omega) (by omega)).mp g) (by omega))]
theorem risCommit_n (hn : n ≤ 60) (hρ : ρ.1.2.2.2 = Int32.ofNat n) {k : Int32} (hk : ∀ i, i < n → k ≠ Int32.ofNat i) : f_R_isCommit ρ k = some 0 := by
  unfold f_R_isCommit
  rcases n_cases k with h | ⟨i, hi, rfl⟩
  · rw [if_pos h]
  · rw [if_neg (n_nn hi), hρ, if_pos ((n_le (by omega) hi).mpr (Nat.le_of_not_lt (fun g => hk i g rfl)))]
theorem commitAt_y (hn : n ≤ 60) (hσ : σ.1 = Int32.ofNat n) {i y : Nat} (hi : i < n) (hy : σ.2.2.1 i = some y) : f_V_commitAt em cm tm σ (Int32.ofNat i) = some (some y) := by
  unfold f_V_commitAt
  rw [isCommit_y hn hσ hi, ob, if_neg (by decide), if_pos ((n_zin (by omega)).mpr (by omega)), n_cl (by omega), hy]
  rfl
theorem commitAt_n (hn : n ≤ 60) (hσ : σ.1 = Int32.ofNat n) {k : Int32} (hk : ∀ i, i < n → k ≠ Int32.ofNat i) : f_V_commitAt em cm tm σ k = some none := by
  unfold f_V_commitAt
  rw [isCommit_n hn hσ hk, ob, if_pos rfl]
/-- a number is a commit's, or none -/
theorem com_cases (hn : n ≤ 60) (k : Int32) : (∃ i, i < n ∧ k = Int32.ofNat i) ∨ (∀ i, i < n → k ≠ Int32.ofNat i) := by
  by_cases h : ∃ i, i < n ∧ k = Int32.ofNat i
  · exact Or.inl h
  · exact Or.inr (fun i hi e => h ⟨i, hi, e⟩)
theorem m1_none (hn : n ≤ 60) : ∀ i, i < n → (-1 : Int32) ≠ Int32.ofNat i := fun i hi e => n_ne1 (by omega) e.symm
theorem meets_L (hn : n ≤ 60) (hσ : σ.1 = Int32.ofNat n) (hC : CMT n σ ρ cm tm) {o1 o5 : ComV} : ∀ (k i : Nat), i + k = n → ∀ (a : Int64) q, ∃ w, L_V_meetsOf_16 cm σ o1 o5 (q + (k + 1)) (Int32.ofNat i) a = some w ∧ ∀ e < 64, (bl w.2 e = true ↔ bl a e = true ∧ ∀ f, i ≤ f → f < n → bl (o1.2.2.2.2.2.1 &&& o5.2.2.2.2.2.1) f = true → ¬ (bl (ρ.2.1.1.2 f) e = true ∧ e ≠ f)) := by
  intro k
  induction k with
  | zero =>
    intro i hi a q
    rw [L_V_meetsOf_16, hσ, if_pos ((n_le (by omega) (by omega)).mpr (by omega))]
    exact ⟨_, rfl, fun e he => ⟨fun h => ⟨h, fun f a b => by omega⟩, fun h => h.1⟩⟩
  | succ k ih =>
    intro i hi a q
    rw [show q + (k + 1 + 1) = (q + (k + 1)) + 1 by omega, L_V_meetsOf_16, hσ, if_neg (fun g => absurd ((n_le (by omega) (by omega)).mp g) (by omega)), isIn_eq _ (by omega), ob]
    by_cases g1 : bl (o1.2.2.2.2.2.1 &&& o5.2.2.2.2.2.1) i = true
    · obtain ⟨y, c, t, c1, c2, c3, c4, c5, c6, c7, c8, c9, c10, c11, c12⟩ := hC i (by omega)
      rw [g1, zB_t, if_neg (by decide), if_pos ((n_zin (by omega)).mpr (by omega)), n_cl (by omega), c1]
      show ∃ w, Option.bind (cm y) _ = some w ∧ _
      rw [c2, ob, f_C_properPast, ob, n_s]
      obtain ⟨w, a1, a2⟩ := ih (i + 1) (by omega) (a &&& ((c.2.2.2.2.2.1 &&& ((zs_l 1 c.1) ^^^ (-1))) ^^^ (-1))) q
      refine ⟨w, a1, fun e he => ?_⟩
      rw [a2 e he, bl_and, bl_not _ he, bl_and, bl_not _ he, c5, c9, bl_s1 (by omega) he]
      constructor
      · rintro ⟨h1, h2⟩
        simp only [Bool.and_eq_true, Bool.not_eq_true', Bool.and_eq_false_iff, Bool.not_eq_false', decide_eq_true_eq] at h1
        refine ⟨h1.1, fun f a b hcf => ?_⟩
        rcases Nat.lt_or_ge i f with g | g
        · exact h2 f g b hcf
        · have : f = i := by omega
          subst this
          rintro ⟨x1, x2⟩
          rcases h1.2 with y1 | y1
          · rw [x1] at y1; cases y1
          · exact x2 y1
      · rintro ⟨h1, h2⟩
        refine ⟨?_, fun f a b hcf => h2 f (by omega) b hcf⟩
        have := h2 i (Nat.le_refl _) (by omega) g1
        simp only [Bool.and_eq_true, Bool.not_eq_true', Bool.and_eq_false_iff, Bool.not_eq_false', decide_eq_true_eq]
        refine ⟨h1, ?_⟩
        by_cases x1 : bl (ρ.2.1.1.2 i) e = true
        · right
          exact Classical.byContradiction (fun x2 => this ⟨x1, x2⟩)
        · left; simpa using x1
    · rw [Bool.not_eq_true] at g1
      rw [g1, zB_f, if_pos rfl, n_s]
      obtain ⟨w, a1, a2⟩ := ih (i + 1) (by omega) a q
      refine ⟨w, a1, fun e he => ?_⟩
      rw [a2 e he]
      constructor
      · rintro ⟨h1, h2⟩
        refine ⟨h1, fun f a b hcf => ?_⟩
        rcases Nat.lt_or_ge i f with g | g
        · exact h2 f g b hcf
        · have : f = i := by omega
          subst this
          rw [g1] at hcf; cases hcf
      · rintro ⟨h1, h2⟩
        exact ⟨h1, fun f a b hcf => h2 f (by omega) b hcf⟩
theorem meetsOf_eq (hn : n ≤ 60) (hσ : σ.1 = Int32.ofNat n) (hC : CMT n σ ρ cm tm) {c d yc yd : Nat} (hc : c < n) (hd : d < n) (ec : σ.2.2.1 c = some yc) (ed : σ.2.2.1 d = some yd) : ∃ m, f_V_meetsOf em cm tm σ yc yd = some m ∧ ∀ e < 60, bl m e = (decide (e < n) && mtb ρ.2.1.1.2 n c d e) := by
  obtain ⟨y1, o1, t1, a1, a2, a3, a4, a5, a6, a7, a8, a9, a10, a11, a12⟩ := hC c hc
  obtain ⟨y2, o2, t2, b1, b2, b3, b4, b5, b6, b7, b8, b9, b10, b11, b12⟩ := hC d hd
  rw [ec] at a1
  rw [ed] at b1
  obtain rfl := Option.some.inj a1
  obtain rfl := Option.some.inj b1
  unfold f_V_meetsOf
  obtain ⟨q, hq⟩ := zfuel_lt (k := n) (by omega)
  obtain ⟨w, w1, w2⟩ := meets_L hn hσ hC (o1 := o1) (o5 := o2) n 0 (by omega) (o1.2.2.2.2.2.1 &&& o2.2.2.2.2.2.1) q
  rw [a2, b2, ob, ob, hq, show L_V_meetsOf_16 cm σ o1 o2 (q + (n + 1)) 0 _ = some w from w1, ob]
  refine ⟨_, rfl, fun e he => ?_⟩
  have h1 := w2 e (by omega)
  rw [a9, b9] at h1
  rw [Bool.eq_iff_iff, h1, Bool.and_eq_true, decide_eq_true_eq, mtb_iff]
  constructor
  · rintro ⟨x1, x2⟩
    have hen : e < n := by
      apply Classical.byContradiction
      intro g
      rw [bl_and, a11 e (by omega)] at x1
      cases x1
    refine ⟨hen, x1, fun f y1 y2 => ?_⟩
    rintro ⟨y3, y4⟩
    exact x2 f (Nat.zero_le _) y2 y3 ⟨y4, by omega⟩
  · rintro ⟨x1, x2, x3⟩
    refine ⟨x2, fun f _ y2 y3 => ?_⟩
    rintro ⟨y4, y5⟩
    rcases Nat.lt_trichotomy e f with g | g | g
    · exact x3 f g y2 ⟨y3, y4⟩
    · exact y5 g
    · obtain ⟨y', o', t', z1, z2, z3, z4, z5, z6, z7, z8, z9, z10, z11, z12⟩ := hC f y2
      rw [z11 e g] at y4
      cases y4
end

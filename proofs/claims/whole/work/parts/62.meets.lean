-- MEETS
def mtb (A : Nat → Int64) (n c d e : Nat) : Bool := bl (A c &&& A d) e && ((List.range n).all fun f => !(decide (e < f) && bl (A c &&& A d) f && bl (A f) e))
theorem mtb_iff (A : Nat → Int64) (n c d e : Nat) : mtb A n c d e = true ↔ bl (A c &&& A d) e = true ∧ ∀ f, e < f → f < n → ¬ (bl (A c &&& A d) f = true ∧ bl (A f) e = true) := by
  unfold mtb
  rw [Bool.and_eq_true, List.all_eq_true]
  constructor
  · rintro ⟨h1, h2⟩
    refine ⟨h1, fun f a b => ?_⟩
    have := h2 f (List.mem_range.mpr b)
    rintro ⟨g1, g2⟩
    simp [a, g1, g2] at this
  · rintro ⟨h1, h2⟩
    refine ⟨h1, fun f hf => ?_⟩
    have hf := List.mem_range.mp hf
    by_cases a : e < f
    · have := h2 f a hf
      cases g1 : bl (A c &&& A d) f <;> cases g2 : bl (A f) e <;> simp_all
    · simp [a]
def ML (A : Nat → Int64) (n c d e : Nat) : List Nat := (List.range' e (n - e)).filter (mtb A n c d)
theorem ML_end (A : Nat → Int64) {n c d e : Nat} (h : n ≤ e) : ML A n c d e = [] := by
  unfold ML; rw [show n - e = 0 by omega]; rfl
theorem ML_s (A : Nat → Int64) {n c d e : Nat} (h : e < n) : ML A n c d e = if mtb A n c d e then e :: ML A n c d (e + 1) else ML A n c d (e + 1) := by
  unfold ML
  rw [show n - e = (n - (e + 1)) + 1 by omega, List.range'_succ, List.filter_cons]
theorem ML_mem {A : Nat → Int64} {n c d e v : Nat} (h : v ∈ ML A n c d e) : e ≤ v ∧ v < n ∧ mtb A n c d v = true := by
  unfold ML at h
  rw [List.mem_filter, List.mem_range'_1] at h
  obtain ⟨⟨h1, h2⟩, h3⟩ := h
  exact ⟨h1, by omega, h3⟩
theorem ML_len (A : Nat → Int64) (n c d e : Nat) : (ML A n c d e).length ≤ n - e := by
  unfold ML
  exact Nat.le_trans (List.length_filter_le _ _) (by simp)
theorem ML_next {A : Nat → Int64} {n c d : Nat} : ∀ (k e j v : Nat), e + k = n → (ML A n c d e)[j]? = some v → ∀ i, (ML A n c d (v + 1))[i]? = (ML A n c d e)[j + 1 + i]? := by
  intro k
  induction k with
  | zero => intro e j v hk h; rw [ML_end A (by omega)] at h; simp at h
  | succ k ih =>
    intro e j v hk h i
    rw [ML_s A (show e < n by omega)] at h ⊢
    split at h
    · rename_i hm
      rw [if_pos hm]
      cases j with
      | zero =>
        simp at h
        subst h
        rw [show 0 + 1 + i = i + 1 by omega, List.getElem?_cons_succ]
      | succ j =>
        rw [List.getElem?_cons_succ] at h
        rw [ih (e + 1) j v (by omega) h i, show j + 1 + 1 + i = (j + 1 + i) + 1 by omega, List.getElem?_cons_succ]
    · rename_i hm
      rw [if_neg hm]
      exact ih (e + 1) j v (by omega) h i
-- the reference's
section
variable {ρ : RSt} {n c d : Nat}
theorem l55 (hn : n ≤ 60) (hc : ρ.1.2.2.2 = Int32.ofNat n) (h1 : c < 60) (h2 : d < 60) {e : Nat} (he : e < 60) : ∀ (k i : Nat), i + k = n → ∀ (b : Bool) m, ∃ w, L_R_meetOf_55 ρ (Int32.ofNat c) (Int32.ofNat d) (Int32.ofNat e) (m + (k + 1)) (Int32.ofNat i) (zB b) = some w ∧ (w.2 = 0 ↔ ¬ (b = true ∧ ∀ f, i ≤ f → f < n → ¬ (bl (ρ.2.1.1.2 c &&& ρ.2.1.1.2 d) f = true ∧ bl (ρ.2.1.1.2 f) e = true))) := by
  intro k
  induction k with
  | zero =>
    intro i hi b m
    rw [L_R_meetOf_55, hc, if_pos ((n_le (by omega) (by omega)).mpr (by omega))]
    refine ⟨_, rfl, ?_⟩
    rw [zB_0]
    constructor
    · intro e1; rw [e1]; rintro ⟨g, -⟩; cases g
    · intro g
      cases b
      · rfl
      · exact absurd ⟨rfl, fun f a b => by omega⟩ g
  | succ k ih =>
    intro i hi b m
    rw [show m + (k + 1 + 1) = (m + (k + 1)) + 1 by omega, L_R_meetOf_55, hc, if_neg (fun g => absurd ((n_le (by omega) (by omega)).mp g) (by omega))]
    have key : ∀ b' : Bool, (b' = true ↔ (b = true ∧ ¬ (bl (ρ.2.1.1.2 c &&& ρ.2.1.1.2 d) i = true ∧ bl (ρ.2.1.1.2 i) e = true))) → ∃ w, L_R_meetOf_55 ρ (Int32.ofNat c) (Int32.ofNat d) (Int32.ofNat e) (m + (k + 1)) (Int32.ofNat i + 1) (zB b') = some w ∧ (w.2 = 0 ↔ ¬ (b = true ∧ ∀ f, i ≤ f → f < n → ¬ (bl (ρ.2.1.1.2 c &&& ρ.2.1.1.2 d) f = true ∧ bl (ρ.2.1.1.2 f) e = true))) := by
      intro b' hb
      rw [n_s]
      obtain ⟨w, a1, a2⟩ := ih (i + 1) (by omega) b' m
      refine ⟨w, a1, ?_⟩
      rw [a2, hb]
      constructor
      · intro g1 g2
        exact g1 ⟨⟨g2.1, g2.2 i (Nat.le_refl _) (by omega)⟩, fun f a b => g2.2 f (by omega) b⟩
      · intro g1 g2
        refine g1 ⟨g2.1.1, fun f a b => ?_⟩
        rcases Nat.lt_or_ge i f with g | g
        · exact g2.2 f g b
        · have : f = i := by omega
          subst this
          exact g2.1.2
    cases b with
    | false =>
      rw [zB_f, if_pos rfl]
      exact key false (by simp)
    | true =>
      rw [zB_t, if_neg (by decide), n_cl (by omega), n_cl (by omega)]
      by_cases g1 : bl (ρ.2.1.1.2 c &&& ρ.2.1.1.2 d) i = true
      · rw [if_neg (fun g => by rw [t_r0 _ (by omega), g1] at g; cases g), if_pos ((n_zin (by omega)).mpr (by omega)), n_cl (by omega)]
        by_cases g2 : bl (ρ.2.1.1.2 i) e = true
        · rw [if_neg (fun g => by rw [t_r0 _ (by omega), g2] at g; cases g)]
          exact key false (by simp [g1, g2])
        · rw [Bool.not_eq_true] at g2
          rw [if_pos ((t_r0 _ (by omega)).mpr g2)]
          exact key true (by simp [g2])
      · rw [Bool.not_eq_true] at g1
        rw [if_pos ((t_r0 _ (by omega)).mpr g1)]
        exact key true (by simp [g1])
theorem l21 (hn : n ≤ 60) (hc : ρ.1.2.2.2 = Int32.ofNat n) (h1 : c < 60) (h2 : d < 60) : ∀ (k e : Nat), e + k = n → ∀ (i : Nat), i < 2147483648 → ∀ m, ∃ w, L_R_meetOf_21 ρ (Int32.ofNat c) (Int32.ofNat d) (m + (k + 1)) (Int32.ofNat e) (Int32.ofNat i) = some w ∧ zs_m w (fun r => some r) (fun _ => some (-1 : Int32)) = some (qn (ML ρ.2.1.1.2 n c d e)[i]?) := by
  intro k
  induction k with
  | zero =>
    intro e he i hi m
    rw [L_R_meetOf_21, hc, if_pos ((n_le (by omega) (by omega)).mpr (by omega)), ML_end _ (by omega)]
    exact ⟨_, rfl, rfl⟩
  | succ k ih =>
    intro e he i hi m
    rw [show m + (k + 1 + 1) = (m + (k + 1)) + 1 by omega, L_R_meetOf_21, hc, if_neg (fun g => absurd ((n_le (by omega) (by omega)).mp g) (by omega)), n_cl (by omega), n_cl (by omega), ML_s _ (show e < n by omega)]
    have key : ∀ b : Bool, (b = true ↔ bl (ρ.2.1.1.2 c &&& ρ.2.1.1.2 d) e = true) → ∃ w, J_R_meetOf_47 ρ (Int32.ofNat c) (Int32.ofNat d) (Int32.ofNat e) (Int32.ofNat i) (L_R_meetOf_21 ρ (Int32.ofNat c) (Int32.ofNat d) (m + (k + 1))) (zB b) = some w ∧ zs_m w (fun r => some r) (fun _ => some (-1 : Int32)) = some (qn (if mtb ρ.2.1.1.2 n c d e then e :: ML ρ.2.1.1.2 n c d (e + 1) else ML ρ.2.1.1.2 n c d (e + 1))[i]?) := by
      intro b hb
      unfold J_R_meetOf_47
      obtain ⟨q, hq⟩ := zfuel_lt (k := k) (by omega)
      obtain ⟨w, a1, a2⟩ := l55 hn hc h1 h2 (e := e) (by omega) k (e + 1) (by omega) b q
      rw [hq, n_s, a1, ob]
      rw [hb] at a2
      have hm : mtb ρ.2.1.1.2 n c d e = true ↔ ¬ (w.2 = 0) := by
        rw [a2, mtb_iff]
        constructor
        · rintro ⟨g1, g2⟩ g3; exact g3 ⟨g1, fun f a b => g2 f (by omega) b⟩
        · intro g
          have g := Classical.not_not.mp g
          exact ⟨g.1, fun f a b => g.2 f (by omega) b⟩
      by_cases h0 : w.2 = 0
      · rw [if_pos h0, if_neg (fun g => hm.mp g h0)]
        exact ih (e + 1) (by omega) i hi m
      · rw [if_neg h0, if_pos (hm.mpr h0)]
        cases i with
        | zero =>
          rw [if_pos (show Int32.ofNat 0 = 0 from rfl)]
          exact ⟨_, rfl, rfl⟩
        | succ i =>
          rw [if_neg (fun g => absurd ((c_eq 0 (by decide) hi).mp g) (by omega)), n_m1]
          exact ih (e + 1) (by omega) i (by omega) m
    by_cases g1 : bl (ρ.2.1.1.2 c &&& ρ.2.1.1.2 d) e = true
    · rw [if_pos ((t_r1 _ (by omega)).mpr g1)]
      exact key true (by simp [g1])
    · rw [if_neg (fun g => g1 ((t_r1 _ (by omega)).mp g))]
      exact key false (by simp [g1])
theorem meetOf_eq (hn : n ≤ 60) (hc : ρ.1.2.2.2 = Int32.ofNat n) (h1 : c < 60) (h2 : d < 60) {i : Nat} (hi : i < 2147483648) : f_R_meetOf ρ (Int32.ofNat c) (Int32.ofNat d) (Int32.ofNat i) = some (qn (ML ρ.2.1.1.2 n c d 0)[i]?) := by
  unfold f_R_meetOf
  rw [if_pos ((n_zin (by omega)).mpr h1), if_pos ((n_zin (by omega)).mpr h2)]
  obtain ⟨m, hm⟩ := zfuel_lt (k := n) (by omega)
  obtain ⟨w, a1, a2⟩ := l21 hn hc h1 h2 n 0 (by omega) i hi m
  rw [hm, show L_R_meetOf_21 ρ (Int32.ofNat c) (Int32.ofNat d) (m + (n + 1)) 0 (Int32.ofNat i) = some w from a1, ob]
  exact a2
end
-- the component's
theorem nextIn_L {A : Nat → Int64} {n c d : Nat} (hn : n ≤ 60) {m : Int64} (hm : ∀ e < 60, bl m e = (decide (e < n) && mtb A n c d e)) : ∀ (k e : Nat), e + k = 60 → ∀ q, ∃ w, L_V_nextIn_2 m (q + (k + 1)) (Int32.ofNat e) = some w ∧ zs_m w (fun r => some r) (fun _ => some (-1 : Int32)) = some (qn (ML A n c d e)[0]?) := by
  intro k
  induction k with
  | zero =>
    intro e he q
    rw [L_V_nextIn_2, if_pos ((le_c 60 (by decide) (by omega)).mpr (by omega)), ML_end _ (by omega)]
    exact ⟨_, rfl, rfl⟩
  | succ k ih =>
    intro e he q
    rw [show q + (k + 1 + 1) = (q + (k + 1)) + 1 by omega, L_V_nextIn_2, if_neg (fun g => absurd ((le_c 60 (by decide) (by omega)).mp g) (by omega)), isIn_eq _ (by omega), ob, hm e (by omega), n_s]
    by_cases h : e < n
    · rw [decide_eq_true h, Bool.true_and, ML_s _ h]
      cases g : mtb A n c d e with
      | true => rw [zB_t, if_neg (by decide)]; exact ⟨_, rfl, rfl⟩
      | false => rw [zB_f, if_pos rfl]; exact ih (e + 1) (by omega) q
    · rw [decide_eq_false h, Bool.false_and, zB_f, if_pos rfl]
      have := ih (e + 1) (by omega) q
      rw [ML_end A (show n ≤ e + 1 by omega)] at this
      rw [ML_end A (show n ≤ e by omega)]
      exact this
theorem nextIn_eq {A : Nat → Int64} {n c d : Nat} (hn : n ≤ 60) {m : Int64} (hm : ∀ e < 60, bl m e = (decide (e < n) && mtb A n c d e)) {e : Nat} (he : e ≤ 60) : f_V_nextIn m (Int32.ofNat e) = some (qn (ML A n c d e)[0]?) := by
  unfold f_V_nextIn
  obtain ⟨q, hq⟩ := zfuel_lt (k := 60 - e) (by omega)
  obtain ⟨w, a1, a2⟩ := nextIn_L hn hm (60 - e) e (by omega) q
  rw [hq, a1, ob]
  exact a2

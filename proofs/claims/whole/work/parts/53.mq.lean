-- MERGING QUEUES: component and reference
section
variable {lb lx ly : List Nat}
def mM (lb lx ly : List Nat) (u : Nat) : Bool := mg (decide (u ∈ lb)) (decide (u ∈ lx)) (decide (u ∈ ly))
def mG (lb lx ly : List Nat) (u v : Nat) : Bool := mg (zbf lb u v) (zbf lx u v) (zbf ly u v)
theorem zbf_self : ∀ (l : List Nat) (v : Nat), zbf l v v = false := by
  intro l
  induction l with
  | nil => intro v; rfl
  | cons a t ih =>
    intro v
    rw [zbf]
    split
    · rfl
    · exact ih v
theorem mG_self (v : Nat) : mG lb lx ly v v = false := by
  unfold mG; rw [zbf_self, zbf_self, zbf_self]; rfl
theorem mset_bit (i j k : Int32) : ∃ m, f_M_mergedSet i j k = some m ∧ ∀ t < 32, bi m t = mg (bi i t) (bi j t) (bi k t) := by
  refine ⟨_, rfl, fun t ht => ?_⟩
  rw [bi_or, bi_or, bi_and, bi_and, bi_and, bi_and, bi_not _ ht]
  cases bi i t <;> cases bi j t <;> cases bi k t <;> rfl
def FR (lb lx ly : List Nat) (k : Int32) (v : Nat) : Prop := bi k v = true ∧ ∀ u < 16, ¬ (bi k u = true ∧ mG lb lx ly u v = true)
def LF (lb lx ly : List Nat) (k : Int32) (j : Nat) (r : Int32) : Prop := (r = -1 ∧ ∀ v, j ≤ v → v < 16 → ¬ FR lb lx ly k v) ∨ ∃ v, j ≤ v ∧ v < 16 ∧ r = Int32.ofNat v ∧ FR lb lx ly k v ∧ ∀ w, j ≤ w → w < v → ¬ FR lb lx ly k w
theorem LF_uniq {k : Int32} {j : Nat} {r r' : Int32} (h : LF lb lx ly k j r) (h' : LF lb lx ly k j r') : r = r' := by
  rcases h with ⟨h1, h2⟩ | ⟨v, a1, a2, a3, a4, a5⟩
  · rcases h' with ⟨g1, g2⟩ | ⟨v', b1, b2, b3, b4, b5⟩
    · rw [h1, g1]
    · exact absurd b4 (h2 v' b1 b2)
  · rcases h' with ⟨g1, g2⟩ | ⟨v', b1, b2, b3, b4, b5⟩
    · exact absurd a4 (g2 v a1 a2)
    · rcases Nat.lt_trichotomy v v' with e | e | e
      · exact absurd a4 (b5 v a1 e)
      · rw [a3, b3, e]
      · exact absurd b4 (a5 v' b1 e)
/-- what 'before' must hold of the members -/
def BF (lb lx ly : List Nat) (g : Nat → Int32) : Prop := ∀ e < 16, mM lb lx ly e = true → ∀ u < 32, bi (g e) u = mG lb lx ly u e
def SB (lb lx ly : List Nat) (k : Int32) : Prop := ∀ u < 32, bi k u = true → u < 16 ∧ mM lb lx ly u = true
theorem and0_i (x y : Int32) : x &&& y = 0 ↔ ∀ u < 32, ¬ (bi x u = true ∧ bi y u = true) := by
  constructor
  · intro h u hu
    have := congrArg (fun z => bi z u) h
    simp only [bi_and, bi_0] at this
    rintro ⟨h1, h2⟩
    rw [h1, h2] at this
    cases this
  · intro h
    apply bi_ext
    intro u hu
    rw [bi_and, bi_0]
    have := h u hu
    cases h1 : bi x u <;> cases h2 : bi y u <;> simp_all
theorem FR_iff {g : Nat → Int32} (hg : BF lb lx ly g) {k : Int32} (hk : SB lb lx ly k) {v : Nat} (hv : v < 16) : FR lb lx ly k v ↔ bi k v = true ∧ (g v &&& k) = 0 := by
  unfold FR
  constructor
  · rintro ⟨h1, h2⟩
    refine ⟨h1, (and0_i _ _).mpr (fun u hu => ?_)⟩
    rintro ⟨h3, h4⟩
    have h5 := hk u hu h4
    rw [hg v hv (hk v (by omega) h1).2 u hu] at h3
    exact h2 u h5.1 ⟨h4, h3⟩
  · rintro ⟨h1, h2⟩
    refine ⟨h1, fun u hu => ?_⟩
    rintro ⟨h3, h4⟩
    refine (and0_i _ _).mp h2 u (by omega) ⟨?_, h3⟩
    rw [hg v hv (hk v (by omega) h1).2 u (by omega)]
    exact h4
theorem leastFree_L {g : Nat → Int32} (hg : BF lb lx ly g) {k : Int32} (hk : SB lb lx ly k) : ∀ (j i : Nat), i + j = 16 → (∀ w < i, ¬ FR lb lx ly k w) → ∀ n, ∃ w r, L_M_leastFree_2 g k (n + (j + 1)) (Int32.ofNat i) = some w ∧ zs_m w (fun r => some r) (fun _ => some (-1 : Int32)) = some r ∧ LF lb lx ly k 0 r := by
  intro j
  induction j with
  | zero =>
    intro i hi hw n
    rw [L_M_leastFree_2, if_pos ((le_c 16 (by decide) (by omega)).mpr (by omega))]
    refine ⟨_, _, rfl, rfl, Or.inl ⟨rfl, fun v _ hv => hw v (by omega)⟩⟩
  | succ j ih =>
    intro i hi hw n
    rw [show n + (j + 1 + 1) = (n + (j + 1)) + 1 by omega, L_M_leastFree_2, if_neg (fun g => absurd ((le_c 16 (by decide) (by omega)).mp g) (by omega))]
    rw [isIn_eq _ (by omega), bl_i _ (by omega), ob]
    by_cases hb : bi k i = true
    · rw [hb, if_neg (by decide), if_pos ((n_zin (by omega)).mpr (by omega)), n_cl (by omega)]
      by_cases h0 : (g i &&& k) = 0
      · rw [if_pos h0]
        refine ⟨_, _, rfl, rfl, Or.inr ⟨i, by omega, by omega, rfl, (FR_iff hg hk (by omega)).mpr ⟨hb, h0⟩, fun w _ h => hw w h⟩⟩
      · rw [if_neg h0, n_s]
        refine ih (i + 1) (by omega) (fun w hlt => ?_) n
        rcases Nat.lt_or_ge w i with h | h
        · exact hw w h
        · have : w = i := by omega
          subst this
          intro hf
          exact h0 ((FR_iff hg hk (by omega)).mp hf).2
    · rw [Bool.not_eq_true] at hb
      rw [hb, zB_f, if_pos rfl, n_s]
      refine ih (i + 1) (by omega) (fun w hlt => ?_) n
      rcases Nat.lt_or_ge w i with h | h
      · exact hw w h
      · have : w = i := by omega
        subst this
        intro hf
        rw [hf.1] at hb
        cases hb
theorem leastFree_eq {g : Nat → Int32} (hg : BF lb lx ly g) {k : Int32} (hk : SB lb lx ly k) : ∃ r, f_M_leastFree g k = some r ∧ LF lb lx ly k 0 r := by
  unfold f_M_leastFree
  obtain ⟨n, hn⟩ := zfuel_lt (k := 16) (by omega)
  rw [hn]
  obtain ⟨w, r, h1, h2, h3⟩ := leastFree_L hg hk 16 0 rfl (fun w h => absurd h (by omega)) n
  rw [show L_M_leastFree_2 g k (n + (16 + 1)) 0 = some w from h1, ob]
  exact ⟨r, h2, h3⟩
variable {ρ : RSt} {tb tx ty : Nat}
def QS (ρ : RSt) (tb tx ty : Nat) (lb lx ly : List Nat) : Prop := (tb < 67 ∧ tx < 67 ∧ ty < 67) ∧ (ql lb ∧ ql lx ∧ ql ly) ∧ (zqr ρ tb lb ∧ zqr ρ tx lx ∧ zqr ρ ty ly)
theorem gb_QS (h : QS ρ tb tx ty lb lx ly) {u v : Nat} (hu : u < 16) (hv : v < 16) : f_R_goesBefore ρ (Int32.ofNat tb) (Int32.ofNat tx) (Int32.ofNat ty) (Int32.ofNat u) (Int32.ofNat v) = some (zB (mG lb lx ly u v)) :=
  goesBefore_eq h.1.1 h.1.2.1 h.1.2.2 h.2.1.1 h.2.1.2.1 h.2.1.2.2 h.2.2.1 h.2.2.2.1 h.2.2.2.2 (by omega) (by omega)
theorem r129 (h : QS ρ tb tx ty lb lx ly) (k : Int32) {v : Nat} (hv : v < 16) : ∀ (j i : Nat), i + j = 16 → ∀ (c : Bool) n, ∃ w, L_R_mergeQueues_129 (Int32.ofNat tb) (Int32.ofNat tx) (Int32.ofNat ty) k ρ (Int32.ofNat v) (n + (j + 1)) (Int32.ofNat i) (zB c) = some w ∧ (w.2 = 0 ↔ ¬ (c = true ∧ ∀ u, i ≤ u → u < 16 → ¬ (bi k u = true ∧ mG lb lx ly u v = true))) := by
  intro j
  induction j with
  | zero =>
    intro i hi c n
    rw [L_R_mergeQueues_129, if_pos ((le_c 16 (by decide) (by omega)).mpr (by omega))]
    refine ⟨_, rfl, ?_⟩
    rw [zB_0]
    constructor
    · intro e; rw [e]; rintro ⟨h1, -⟩; cases h1
    · intro e
      cases c
      · rfl
      · exact absurd ⟨rfl, fun u h1 h2 => by omega⟩ e
  | succ j ih =>
    intro i hi c n
    rw [show n + (j + 1 + 1) = (n + (j + 1)) + 1 by omega, L_R_mergeQueues_129, if_neg (fun g => absurd ((le_c 16 (by decide) (by omega)).mp g) (by omega))]
    have key : ∀ c' : Bool, (c' = true ↔ (c = true ∧ ¬ (bi k i = true ∧ mG lb lx ly i v = true))) → ∃ w, L_R_mergeQueues_129 (Int32.ofNat tb) (Int32.ofNat tx) (Int32.ofNat ty) k ρ (Int32.ofNat v) (n + (j + 1)) (Int32.ofNat i + 1) (zB c') = some w ∧ (w.2 = 0 ↔ ¬ (c = true ∧ ∀ u, i ≤ u → u < 16 → ¬ (bi k u = true ∧ mG lb lx ly u v = true))) := by
      intro c' hc
      rw [n_s]
      obtain ⟨w, h1, h2⟩ := ih (i + 1) (by omega) c' n
      refine ⟨w, h1, ?_⟩
      rw [h2, hc]
      constructor
      · intro g1 g2
        exact g1 ⟨⟨g2.1, g2.2 i (Nat.le_refl _) (by omega)⟩, fun u a b => g2.2 u (by omega) b⟩
      · intro g1 g2
        refine g1 ⟨g2.1.1, fun u a b => ?_⟩
        rcases Nat.lt_or_ge i u with e | e
        · exact g2.2 u e b
        · have : u = i := by omega
          subst this
          exact g2.1.2
    cases c with
    | false =>
      rw [zB_f, if_pos rfl]
      exact key false (by simp)
    | true =>
      rw [zB_t, if_neg (by decide)]
      by_cases hb : bi k i = true
      · rw [if_pos ((t_i k (by omega)).mpr hb)]
        by_cases hiv : i = v
        · rw [if_pos (by rw [hiv])]
          refine key true ?_
          subst hiv
          simp [mG_self]
        · rw [if_neg (fun g => hiv ((n_eq (by omega) (by omega)).mp g)), gb_QS h (by omega) hv, ob]
          by_cases hG : mG lb lx ly i v = true
          · rw [hG, zB_t, if_neg (by decide)]
            exact key false (by simp [hb, hG])
          · rw [Bool.not_eq_true] at hG
            rw [hG, zB_f, if_pos rfl]
            exact key true (by simp [hG])
      · rw [if_neg (fun g => hb ((t_i k (by omega)).mp g))]
        exact key true (by simp [hb])
def dn : Nat → Int32
  | 0 => -1
  | j + 1 => Int32.ofNat j
theorem dn_s (j : Nat) : Int32.ofNat j + (-1) = dn j := by
  cases j with
  | zero => decide
  | succ j => exact n_m1 j
theorem r103 (h : QS ρ tb tx ty lb lx ly) (k : Int32) : ∀ (j : Nat), j ≤ 16 → ∀ (r : Int32), LF lb lx ly k j r → ∀ n, ∃ w, L_R_mergeQueues_103 (Int32.ofNat tb) (Int32.ofNat tx) (Int32.ofNat ty) k ρ (n + (j + 1)) (dn j) r = some w ∧ LF lb lx ly k 0 w.2 := by
  intro j
  induction j with
  | zero =>
    intro hj r hr n
    rw [L_R_mergeQueues_103, if_pos (by decide)]
    exact ⟨_, rfl, hr⟩
  | succ j ih =>
    intro hj r hr n
    rw [show n + (j + 1 + 1) = (n + (j + 1)) + 1 by omega, L_R_mergeQueues_103]
    rw [show dn (j + 1) = Int32.ofNat j from rfl, if_neg (n_nn (by omega))]
    have key : ∀ c : Bool, (c = true ↔ bi k j = true) → ∃ w, J_R_mergeQueues_124 (Int32.ofNat tb) (Int32.ofNat tx) (Int32.ofNat ty) k ρ (Int32.ofNat j) r (L_R_mergeQueues_103 (Int32.ofNat tb) (Int32.ofNat tx) (Int32.ofNat ty) k ρ (n + (j + 1))) (zB c) = some w ∧ LF lb lx ly k 0 w.2 := by
      intro c hc
      unfold J_R_mergeQueues_124
      obtain ⟨m, hm⟩ := zfuel_lt (k := 16) (by omega)
      rw [hm]
      obtain ⟨w, h1, h2⟩ := r129 h k (v := j) (by omega) 16 0 rfl c m
      rw [show L_R_mergeQueues_129 (Int32.ofNat tb) (Int32.ofNat tx) (Int32.ofNat ty) k ρ (Int32.ofNat j) (m + (16 + 1)) 0 (zB c) = some w from h1, ob, dn_s]
      rw [hc] at h2
      have h3 : w.2 = 0 ↔ ¬ FR lb lx ly k j := by
        rw [h2]; unfold FR
        constructor
        · intro g1 g2; exact g1 ⟨g2.1, fun u _ b => g2.2 u b⟩
        · intro g1 g2; exact g1 ⟨g2.1, fun u b => g2.2 u (Nat.zero_le _) b⟩
      by_cases hf : FR lb lx ly k j
      · rw [if_neg (fun g => h3.mp g hf)]
        exact ih (by omega) _ (Or.inr ⟨j, Nat.le_refl _, by omega, rfl, hf, fun w a b => by omega⟩) n
      · rw [if_pos (h3.mpr hf)]
        refine ih (by omega) _ ?_ n
        rcases hr with ⟨a1, a2⟩ | ⟨v, a1, a2, a3, a4, a5⟩
        · refine Or.inl ⟨a1, fun v b1 b2 => ?_⟩
          rcases Nat.lt_or_ge j v with e | e
          · exact a2 v e b2
          · have : v = j := by omega
            subst this; exact hf
        · refine Or.inr ⟨v, by omega, a2, a3, a4, fun w b1 b2 => ?_⟩
          rcases Nat.lt_or_ge j w with e | e
          · exact a5 w e b2
          · have : w = j := by omega
            subst this; exact hf
    by_cases hb : bi k j = true
    · rw [if_pos ((t_i k (by omega)).mpr hb)]
      exact key true (by simp [hb])
    · rw [if_neg (fun g => hb ((t_i k (by omega)).mp g))]
      exact key false (by simp [hb])
theorem r103_eq (h : QS ρ tb tx ty lb lx ly) (k : Int32) : ∃ w, L_R_mergeQueues_103 (Int32.ofNat tb) (Int32.ofNat tx) (Int32.ofNat ty) k ρ zfuel 15 (-1) = some w ∧ LF lb lx ly k 0 w.2 := by
  obtain ⟨n, hn⟩ := zfuel_lt (k := 16) (by omega)
  rw [hn]
  exact r103 h k 16 (Nat.le_refl _) (-1) (Or.inl ⟨rfl, fun v a b => by omega⟩) n
end

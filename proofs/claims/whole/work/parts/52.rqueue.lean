-- the reference'S QUEUES
def zqr (ρ : RSt) (t : Nat) (l : List Nat) : Prop := ρ.1.1.2.2 t = Int32.ofNat l.length ∧ ∀ i e, l[i]? = some e → ρ.1.2.1.1.1 (8 * t + i) = Int32.ofNat e
def po : List Nat → Nat → Nat → Option Nat
  | [], _, _ => none
  | a :: t, u, i => if a = u then some i else po t u (i + 1)
theorem eight (t : Nat) (i : Nat) : (8 : Int32) * Int32.ofNat t + Int32.ofNat i = Int32.ofNat (8 * t + i) := by
  rw [show (8 : Int32) = Int32.ofNat 8 from rfl, n_mul, n_add]
theorem po_ge : ∀ (l : List Nat) (u i p : Nat), po l u i = some p → i ≤ p ∧ p < i + l.length := by
  intro l
  induction l with
  | nil => intro u i p h; cases h
  | cons a t ih =>
    intro u i p h
    rw [po] at h
    split at h
    · cases h; simp
    · have := ih u (i + 1) p h
      simp only [List.length_cons]
      omega
theorem po_mem : ∀ (l : List Nat) (u i : Nat), (po l u i).isSome = decide (u ∈ l) := by
  intro l
  induction l with
  | nil => intro u i; simp [po]
  | cons a t ih =>
    intro u i
    rw [po]
    split
    · rename_i h; simp [h]
    · rename_i h
      rw [ih]
      have : ¬ u = a := fun g => h g.symm
      simp [this]
theorem po_bf : ∀ (l : List Nat) (u v i : Nat), zbf l u v = match po l u i with
  | none => false
  | some p => match po l v i with
    | none => false
    | some q => decide (p < q) := by
  intro l
  induction l with
  | nil => intro u v i; rfl
  | cons a t ih =>
    intro u v i
    rw [zbf, po, po]
    by_cases h1 : a = v
    · rw [if_pos h1, if_pos h1]
      by_cases h2 : a = u
      · rw [if_pos h2]; simp
      · rw [if_neg h2]
        cases h3 : po t u (i + 1) with
        | none => rfl
        | some p =>
          have := (po_ge t u (i + 1) p h3).1
          simp; omega
    · rw [if_neg h1, if_neg h1]
      by_cases h2 : a = u
      · rw [if_pos h2, if_pos h2]
        have h4 := po_mem t v (i + 1)
        cases h3 : po t v (i + 1) with
        | none => rw [h3] at h4; simp at h4; simp [h4]
        | some p =>
          have := (po_ge t v (i + 1) p h3).1
          rw [h3] at h4; simp at h4; simp [h4]; omega
      · rw [if_neg h2, if_neg h2]
        exact ih u v (i + 1)
theorem placeOf_L {ρ : RSt} {t : Nat} {l : List Nat} (ht : t < 67) (h : ql l) (hq : zqr ρ t l) {v : Nat} (hv : v < 2147483648) : ∀ (k i : Nat), i + k = l.length → ∀ n, ∃ w, L_R_placeOf_2 ρ (Int32.ofNat t) (Int32.ofNat v) (n + (k + 1)) (Int32.ofNat i) = some (match po (l.drop i) v i with | some p => Sum.inl (Int32.ofNat p) | none => Sum.inr w) := by
  intro k
  have hl := h.1
  induction k with
  | zero =>
    intro i hi n
    rw [L_R_placeOf_2, if_pos ((n_zin (by omega)).mpr ht), n_cl (by omega), hq.1, if_pos ((n_le (by omega) (by omega)).mpr (by omega))]
    have ed : l.drop i = [] := List.drop_eq_nil_of_le (by omega)
    rw [ed]
    exact ⟨_, rfl⟩
  | succ k ih =>
    intro i hi n
    rw [show n + (k + 1 + 1) = (n + (k + 1)) + 1 by omega, L_R_placeOf_2, if_pos ((n_zin (by omega)).mpr ht), n_cl (by omega), hq.1, if_neg (fun g => by rw [n_le (by omega) (by omega)] at g; omega)]
    have hlt : i < l.length := by omega
    have e : l[i]? = some l[i] := List.getElem?_eq_getElem hlt
    have h16 := qn_ne h e
    rw [eight, if_pos ((n_zin (by omega)).mpr (by omega)), n_cl (by omega), hq.2 i _ e, drop_get e, po]
    by_cases ev : l[i] = v
    · rw [if_pos (by rw [ev]), if_pos ev]; exact ⟨0, rfl⟩
    · rw [if_neg (fun g => ev ((n_eq (by omega) (by omega)).mp g)), if_neg ev, n_s]
      exact ih (i + 1) (by omega) n
theorem placeOf_eq {ρ : RSt} {t : Nat} {l : List Nat} (ht : t < 67) (h : ql l) (hq : zqr ρ t l) {v : Nat} (hv : v < 2147483648) : f_R_placeOf ρ (Int32.ofNat t) (Int32.ofNat v) = some (qn (po l v 0)) := by
  unfold f_R_placeOf
  have hl := h.1
  obtain ⟨n, hn⟩ := zfuel_lt (k := l.length) (by omega)
  rw [hn]
  obtain ⟨w, this⟩ := placeOf_L ht h hq hv l.length 0 (by omega) n
  rw [show L_R_placeOf_2 ρ (Int32.ofNat t) (Int32.ofNat v) (n + (l.length + 1)) 0 = _ from this, List.drop_zero]
  cases po l v 0 <;> rfl
theorem qn_neg (o : Option Nat) (h : ∀ p, o = some p → p < 2147483648) : (qn o < 0) ↔ o = none := by
  cases o with
  | none => rw [qn_n]; decide
  | some p => rw [qn_s]; simp only [reduceCtorEq, iff_false]; exact n_nn (h p rfl)
theorem po_lt {l : List Nat} (h : ql l) {u p : Nat} (e : po l u 0 = some p) : p < 8 := by
  have := (po_ge l u 0 p e).2
  have := h.1
  omega
theorem place_neg {l : List Nat} (h : ql l) (u : Nat) : (qn (po l u 0) < 0) ↔ u ∉ l := by
  rw [qn_neg _ (fun p e => by have := po_lt h e; omega)]
  have := po_mem l u 0
  cases hp : po l u 0 with
  | none => rw [hp] at this; simp at this; simp [this]
  | some p => rw [hp] at this; simp at this; simp [this]
theorem before_eq {ρ : RSt} {t : Nat} {l : List Nat} (ht : t < 67) (h : ql l) (hq : zqr ρ t l) {u v : Nat} (hu : u < 2147483648) (hv : v < 2147483648) : f_R_before ρ (Int32.ofNat t) (Int32.ofNat u) (Int32.ofNat v) = some (zB (zbf l u v)) := by
  unfold f_R_before
  rw [placeOf_eq ht h hq hu, placeOf_eq ht h hq hv, ob, po_bf l u v 0]
  cases hp : po l u 0 with
  | none => rw [qn_n]; rfl
  | some p =>
    have h1 := po_lt h hp
    rw [qn_s, if_neg (n_nn (by omega)), ob]
    cases hr : po l v 0 with
    | none => rw [qn_n, if_pos (Int32.le_of_lt (Int32.lt_of_lt_of_le (by decide : (-1 : Int32) < 0) (n_p (by omega))))]; rfl
    | some r =>
      have h2 := po_lt h hr
      rw [qn_s]
      by_cases e : p < r
      · rw [if_neg (fun g => by rw [n_le (by omega) (by omega)] at g; omega)]; simp [e, zB]
      · rw [if_pos ((n_le (by omega) (by omega)).mpr (by omega))]; simp [e, zB]
/-- in b: both; not in b: one of both -/
def mg (b x y : Bool) : Bool := if b then x && y else x || y
theorem goesBefore_eq {ρ : RSt} {tb tx ty : Nat} {lb lx ly : List Nat} (hb : tb < 67) (hx : tx < 67) (hy : ty < 67) (qb : ql lb) (qx : ql lx) (qy : ql ly) (rb : zqr ρ tb lb) (rx : zqr ρ tx lx) (ry : zqr ρ ty ly) {u v : Nat} (hu : u < 2147483648) (hv : v < 2147483648) :
    f_R_goesBefore ρ (Int32.ofNat tb) (Int32.ofNat tx) (Int32.ofNat ty) (Int32.ofNat u) (Int32.ofNat v) = some (zB (mg (zbf lb u v) (zbf lx u v) (zbf ly u v))) := by
  unfold f_R_goesBefore
  rw [before_eq hb qb rb hu hv, before_eq hx qx rx hu hv, before_eq hy qy ry hu hv, ob, ob, ob]
  cases zbf lb u v <;> cases zbf lx u v <;> cases zbf ly u v <;> rfl
theorem member_eq {ρ : RSt} {tb tx ty : Nat} {lb lx ly : List Nat} (hb : tb < 67) (hx : tx < 67) (hy : ty < 67) (qb : ql lb) (qx : ql lx) (qy : ql ly) (rb : zqr ρ tb lb) (rx : zqr ρ tx lx) (ry : zqr ρ ty ly) {u : Nat} (hu : u < 2147483648) :
    f_R_member ρ (Int32.ofNat tb) (Int32.ofNat tx) (Int32.ofNat ty) (Int32.ofNat u) = some (zB (mg (decide (u ∈ lb)) (decide (u ∈ lx)) (decide (u ∈ ly)))) := by
  unfold f_R_member J_R_member_15 J_R_member_32
  rw [placeOf_eq hb qb rb hu, placeOf_eq hx qx rx hu, placeOf_eq hy qy ry hu]
  simp only [ob]
  have e1 := place_neg qb u
  have e2 := place_neg qx u
  have e3 := place_neg qy u
  by_cases h1 : u ∈ lb <;> by_cases h2 : u ∈ lx <;> by_cases h3 : u ∈ ly <;> simp [e1, e2, e3, h1, h2, h3, J_R_member_49, mg, zB]

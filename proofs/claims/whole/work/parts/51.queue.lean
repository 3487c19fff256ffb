-- QUEUES: the packed queue of the component as a list of small numbers
def pk : List Nat → Nat
  | [] => 0
  | e :: l => (1 + e) + 32 * pk l
theorem ob {α β : Type} (x : α) (f : α → Option β) : Option.bind (some x) f = f x := rfl
def ql (l : List Nat) : Prop := l.length ≤ 8 ∧ ∀ e ∈ l, e < 16
def qn (o : Option Nat) : Int32 := match o with
  | some e => Int32.ofNat e
  | none => -1
theorem qn_s (e : Nat) : qn (some e) = Int32.ofNat e := rfl
theorem qn_n : qn none = -1 := rfl
theorem pkk_lt : ∀ (l : List Nat), (∀ e ∈ l, e < 16) → pk l < 32 ^ l.length := by
  intro l
  induction l with
  | nil => intro _; decide
  | cons e l ih =>
    intro h
    have h1 := ih (fun a ha => h a (List.mem_cons_of_mem _ ha))
    have h2 := h e List.mem_cons_self
    simp only [pk, List.length_cons, Nat.pow_succ]
    omega
theorem pk_40 {l : List Nat} (h : ql l) : pk l < 1099511627776 := by
  refine Nat.lt_of_lt_of_le (pkk_lt l h.2) ?_
  have : (32 : Nat) ^ l.length ≤ 32 ^ 8 := Nat.pow_le_pow_right (by decide) h.1
  exact Nat.le_trans this (by decide)
theorem pk_at : ∀ (l : List Nat) (i : Nat), (∀ e ∈ l, e < 16) → pk l / 32 ^ i % 32 = match l[i]? with
  | some e => 1 + e
  | none => 0 := by
  intro l
  induction l with
  | nil => intro i _; simp [pk]
  | cons e l ih =>
    intro i h
    have h2 := h e List.mem_cons_self
    cases i with
    | zero => simp [pk]; omega
    | succ i =>
      have h1 := ih i (fun a ha => h a (List.mem_cons_of_mem _ ha))
      simp only [List.getElem?_cons_succ, pk]
      rw [← h1, Nat.pow_succ, Nat.mul_comm (32 ^ i) 32, ← Nat.div_div_eq_div_mul]
      congr 2
      omega
theorem bl_n (N : Nat) {k : Nat} (h : k < 64) : bl (Int64.ofNat N) k = N.testBit k := by
  unfold bl
  show (BitVec.ofNat 64 N).getLsbD k = _
  rw [BitVec.getLsbD_ofNat]
  simp [h]
theorem bi_n (N : Nat) {k : Nat} (h : k < 32) : bi (Int32.ofNat N) k = N.testBit k := by
  unfold bi
  show (BitVec.ofNat 32 N).getLsbD k = _
  rw [BitVec.getLsbD_ofNat]
  simp [h]
theorem u_n {N k : Nat} (hN : N < 18446744073709551616) (hk : k < 64) : zu_l (Int64.ofNat N) (Int32.ofNat k) = Int64.ofNat (N / 2 ^ k) := by
  apply bl_ext
  intro j hj
  rw [bl_u _ hk, bl_n _ hj, Nat.testBit_div_two_pow]
  rcases Nat.lt_or_ge (k + j) 64 with h | h
  · rw [bl_n _ h, Nat.add_comm]
  · rw [bl_hi _ h]
    symm
    apply Nat.testBit_lt_two_pow
    exact Nat.lt_of_lt_of_le hN (Nat.le_trans (by decide : 18446744073709551616 ≤ 2 ^ 64) (Nat.pow_le_pow_right (by decide) (by omega)))
theorem and_n (M N : Nat) : Int64.ofNat M &&& Int64.ofNat N = Int64.ofNat (M &&& N) := by
  apply bl_ext
  intro j hj
  rw [bl_and, bl_n _ hj, bl_n _ hj, bl_n _ hj, Nat.testBit_and]
theorem or_n (M N : Nat) : Int64.ofNat M ||| Int64.ofNat N = Int64.ofNat (M ||| N) := by
  apply bl_ext
  intro j hj
  rw [bl_or, bl_n _ hj, bl_n _ hj, bl_n _ hj, Nat.testBit_or]
theorem s_n {M k : Nat} (hk : k < 64) : zs_l (Int64.ofNat M) (Int32.ofNat k) = Int64.ofNat (M * 2 ^ k) := by
  apply bl_ext
  intro j hj
  rw [bl_s hk _ hj, bl_n _ hj, bl_n _ (by omega), Nat.testBit_mul_two_pow]
theorem five (i : Nat) : (5 : Int32) * Int32.ofNat i = Int32.ofNat (5 * i) := n_mul 5 i
theorem p32 (i : Nat) : (2 : Nat) ^ (5 * i) = 32 ^ i := by rw [Nat.pow_mul]
theorem elementAt_eq {l : List Nat} (h : ql l) {i : Nat} (hi : i ≤ 8) : f_Q_elementAt (Int64.ofNat (pk l)) (Int32.ofNat i) = some (qn l[i]?) := by
  unfold f_Q_elementAt
  have h40 := pk_40 h
  rw [five, u_n (by omega) (by omega), show (31 : Int64) = Int64.ofNat 31 from rfl, and_n, p32]
  rw [show (31 : Nat) = 2 ^ 5 - 1 from rfl, Nat.and_two_pow_sub_one_eq_mod]
  rw [show (2 : Nat) ^ 5 = 32 from rfl, pk_at l i h.2]
  cases e : l[i]? with
  | none => rfl
  | some v =>
    have hv := h.2 v (List.mem_of_getElem? e)
    simp only [qn]
    congr 1
    rw [Nat.add_comm, Int64.toInt32_ofNat']
    exact n_m v
theorem qn_ne {l : List Nat} (h : ql l) {i e : Nat} (he : l[i]? = some e) : e < 16 := h.2 e (List.mem_of_getElem? he)
theorem length_L {l : List Nat} (h : ql l) : ∀ (k i : Nat), i + k = l.length → ∀ n, L_Q_length_2 (Int64.ofNat (pk l)) (n + (k + 1)) (Int32.ofNat i) = some (Int32.ofNat l.length) := by
  intro k
  induction k with
  | zero =>
    intro i hi n
    have hl := h.1
    rw [L_Q_length_2]
    by_cases h8 : 8 ≤ Int32.ofNat i
    · rw [if_pos h8]; simp at hi; rw [hi]
    · rw [if_neg h8]
      rw [show (8 : Int32) = Int32.ofNat 8 from rfl, n_le (by decide) (by omega)] at h8
      rw [elementAt_eq h (by omega)]
      have e : l[i]? = none := List.getElem?_eq_none (by omega)
      rw [e]
      simp at hi
      simp [qn, hi]
  | succ k ih =>
    intro i hi n
    have hl := h.1
    rw [show n + (k + 1 + 1) = (n + (k + 1)) + 1 by omega, L_Q_length_2]
    have h8 : ¬ (8 ≤ Int32.ofNat i) := by
      rw [show (8 : Int32) = Int32.ofNat 8 from rfl, n_le (by decide) (by omega)]; omega
    rw [if_neg h8, elementAt_eq h (by omega)]
    have hlt : i < l.length := by omega
    have e : l[i]? = some l[i] := List.getElem?_eq_getElem hlt
    have h16 := qn_ne h e
    rw [e]
    rw [ob, qn_s, if_neg (n_ne1 (by omega)), n_s]
    exact ih (i + 1) (by omega) n
theorem length_eq {l : List Nat} (h : ql l) : f_Q_length (Int64.ofNat (pk l)) = some (Int32.ofNat l.length) := by
  unfold f_Q_length
  have hl := h.1
  obtain ⟨n, hn⟩ := zfuel_lt (k := l.length) (by omega)
  rw [hn]
  have := length_L h l.length 0 (by omega) n
  rw [show (0 : Int32) = Int32.ofNat 0 from rfl, this]; rfl
def mm : Int32 → List Nat → Int32
  | a, [] => a
  | a, e :: l => mm (a ||| (1 <<< (Int32.ofNat e &&& 31))) l
theorem mm_bit : ∀ (l : List Nat) (a : Int32) (k : Nat), k < 32 → (∀ e ∈ l, e < 16) → bi (mm a l) k = (bi a k || decide (k ∈ l)) := by
  intro l
  induction l with
  | nil => intro a k _ _; simp [mm]
  | cons e l ih =>
    intro a k hk h
    have h2 := h e List.mem_cons_self
    rw [mm, ih _ k hk (fun a ha => h a (List.mem_cons_of_mem _ ha)), bi_or, bi_s1 (by omega) hk]
    by_cases e1 : k = e
    · simp [e1]
    · simp [e1]
theorem drop_get {l : List Nat} {i e : Nat} (h : l[i]? = some e) : l.drop i = e :: l.drop (i + 1) := by
  obtain ⟨h1, h2⟩ := List.getElem?_eq_some_iff.mp h
  rw [List.drop_eq_getElem_cons h1, h2]
theorem members_L {l : List Nat} (h : ql l) : ∀ (k i : Nat), i + k = l.length → ∀ n a, ∃ w, L_Q_members_4 (Int64.ofNat (pk l)) (n + (k + 1)) (Int32.ofNat i) a = some (w, mm a (l.drop i)) := by
  intro k
  induction k with
  | zero =>
    intro i hi n a
    have hl := h.1
    rw [L_Q_members_4]
    have ed : l.drop i = [] := List.drop_eq_nil_of_le (by omega)
    rw [ed]
    by_cases h8 : 8 ≤ Int32.ofNat i
    · rw [if_pos h8]; exact ⟨_, rfl⟩
    · rw [if_neg h8]
      rw [show (8 : Int32) = Int32.ofNat 8 from rfl, n_le (by decide) (by omega)] at h8
      rw [elementAt_eq h (by omega)]
      have e : l[i]? = none := List.getElem?_eq_none (by omega)
      rw [e]
      exact ⟨_, rfl⟩
  | succ k ih =>
    intro i hi n a
    have hl := h.1
    rw [show n + (k + 1 + 1) = (n + (k + 1)) + 1 by omega, L_Q_members_4]
    have h8 : ¬ (8 ≤ Int32.ofNat i) := by
      rw [show (8 : Int32) = Int32.ofNat 8 from rfl, n_le (by decide) (by omega)]; omega
    rw [if_neg h8, elementAt_eq h (by omega)]
    have hlt : i < l.length := by omega
    have e : l[i]? = some l[i] := List.getElem?_eq_getElem hlt
    have h16 := qn_ne h e
    rw [drop_get e, e]
    rw [ob, qn_s, if_neg (n_ne1 (by omega)), n_s]
    exact ih (i + 1) (by omega) n _
theorem members_eq {l : List Nat} (h : ql l) : f_Q_members (Int64.ofNat (pk l)) = some (mm 0 l) := by
  unfold f_Q_members
  have hl := h.1
  obtain ⟨n, hn⟩ := zfuel_lt (k := l.length) (by omega)
  rw [hn]
  obtain ⟨w, this⟩ := members_L h l.length 0 (by omega) n 0
  rw [show L_Q_members_4 (Int64.ofNat (pk l)) (n + (l.length + 1)) 0 0 = some (w, mm 0 (l.drop 0)) from this]; rfl
/-- u stands before v -/
def zbf : List Nat → Nat → Nat → Bool
  | [], _, _ => false
  | a :: t, u, v => if a = v then false else if a = u then decide (v ∈ t) else zbf t u v
def sb : Int32 → List Nat → Nat → Option Int32
  | _, [], _ => none
  | c, a :: t, v => if a = v then some c else sb (c ||| (1 <<< (Int32.ofNat a &&& 31))) t v
theorem zbf_no : ∀ (l : List Nat) (u v : Nat), v ∉ l → zbf l u v = false := by
  intro l
  induction l with
  | nil => intro u v _; rfl
  | cons a t ih =>
    intro u v h
    simp only [List.mem_cons, not_or] at h
    rw [zbf, ih u v h.2]
    split
    · rfl
    · split
      · simp [h.2]
      · rfl
theorem sb_bit : ∀ (l : List Nat) (c : Int32) (v : Nat), (∀ e ∈ l, e < 16) → (v ∉ l ∧ sb c l v = none) ∨ (v ∈ l ∧ ∃ m, sb c l v = some m ∧ ∀ u < 32, bi m u = (bi c u || zbf l u v)) := by
  intro l
  induction l with
  | nil => intro c v _; exact Or.inl ⟨by simp, rfl⟩
  | cons a t ih =>
    intro c v h
    have h2 := h a List.mem_cons_self
    by_cases e : a = v
    · right
      refine ⟨by simp [e], c, by simp [sb, e], fun u hu => ?_⟩
      simp [zbf, e]
    · rcases ih (c ||| (1 <<< (Int32.ofNat a &&& 31))) v (fun a ha => h a (List.mem_cons_of_mem _ ha)) with ⟨h3, h4⟩ | ⟨h3, m, h4, h5⟩
      · left
        refine ⟨?_, by rw [sb, if_neg e]; exact h4⟩
        simp only [List.mem_cons, not_or]
        exact ⟨fun g => e g.symm, h3⟩
      · right
        refine ⟨List.mem_cons_of_mem _ h3, m, by rw [sb, if_neg e]; exact h4, fun u hu => ?_⟩
        rw [h5 u hu, bi_or, bi_s1 (by omega) hu, zbf, if_neg e]
        by_cases e2 : a = u
        · subst e2; simp [h3]
        · rw [if_neg e2]
          rw [decide_eq_false (fun g : u = a => e2 g.symm), Bool.or_false]
theorem standing_L {l : List Nat} (h : ql l) {v : Nat} (hv : v < 16) : ∀ (k i : Nat), i + k = l.length → ∀ n a, ∃ w, L_Q_standingBefore_5 (Int64.ofNat (pk l)) (Int32.ofNat v) (n + (k + 1)) (Int32.ofNat i) a = some (match sb a (l.drop i) v with | some m => Sum.inl m | none => Sum.inr w) := by
  intro k
  induction k with
  | zero =>
    intro i hi n a
    have hl := h.1
    rw [L_Q_standingBefore_5]
    have ed : l.drop i = [] := List.drop_eq_nil_of_le (by omega)
    rw [ed]
    by_cases h8 : 8 ≤ Int32.ofNat i
    · rw [if_pos h8]; exact ⟨_, rfl⟩
    · rw [if_neg h8]
      rw [show (8 : Int32) = Int32.ofNat 8 from rfl, n_le (by decide) (by omega)] at h8
      rw [elementAt_eq h (by omega)]
      have e : l[i]? = none := List.getElem?_eq_none (by omega)
      rw [e]
      rw [ob, qn_n, if_neg (fun g => n_ne1 (by omega) g.symm)]
      exact ⟨_, rfl⟩
  | succ k ih =>
    intro i hi n a
    have hl := h.1
    rw [show n + (k + 1 + 1) = (n + (k + 1)) + 1 by omega, L_Q_standingBefore_5]
    have h8 : ¬ (8 ≤ Int32.ofNat i) := by
      rw [show (8 : Int32) = Int32.ofNat 8 from rfl, n_le (by decide) (by omega)]; omega
    rw [if_neg h8, elementAt_eq h (by omega)]
    have hlt : i < l.length := by omega
    have e : l[i]? = some l[i] := List.getElem?_eq_getElem hlt
    have h16 := qn_ne h e
    rw [drop_get e, e]
    rw [ob, qn_s]
    by_cases ev : l[i] = v
    · rw [if_pos (by rw [ev]), sb, if_pos ev]; exact ⟨(0, 0), rfl⟩
    · rw [if_neg (fun g => ev ((n_eq (by omega) (by omega)).mp g)), if_neg (n_ne1 (by omega)), n_s, sb, if_neg ev]
      exact ih (i + 1) (by omega) n _
theorem standing_eq {l : List Nat} (h : ql l) {v : Nat} (hv : v < 16) : ∃ m, f_Q_standingBefore (Int64.ofNat (pk l)) (Int32.ofNat v) = some m ∧ ∀ u < 32, bi m u = zbf l u v := by
  unfold f_Q_standingBefore
  have hl := h.1
  obtain ⟨n, hn⟩ := zfuel_lt (k := l.length) (by omega)
  rw [hn]
  obtain ⟨w, this⟩ := standing_L h hv l.length 0 (by omega) n 0
  rw [show L_Q_standingBefore_5 (Int64.ofNat (pk l)) (Int32.ofNat v) (n + (l.length + 1)) 0 0 = _ from this]
  rw [List.drop_zero]
  rcases sb_bit l 0 v h.2 with ⟨h3, h4⟩ | ⟨h3, m, h4, h5⟩
  · rw [h4]
    refine ⟨0, rfl, fun u hu => ?_⟩
    rw [bi_0, zbf_no l u v h3]
  · rw [h4]
    refine ⟨m, rfl, fun u hu => ?_⟩
    rw [h5 u hu, bi_0, Bool.false_or]
theorem pk_app : ∀ (l : List Nat) (e : Nat), pk (l ++ [e]) = (1 + e) * 32 ^ l.length + pk l := by
  intro l
  induction l with
  | nil => intro e; simp [pk]
  | cons a l ih =>
    intro e
    rw [List.cons_append, pk, ih, pk, List.length_cons, Nat.pow_succ]
    rw [Nat.mul_add, ← Nat.mul_assoc, Nat.mul_comm 32 (1 + e), Nat.mul_assoc (1 + e), Nat.mul_comm 32 (32 ^ l.length)]
    omega
theorem with_eq {l : List Nat} (h : ∀ e ∈ l, e < 16) (hl : l.length ≤ 8) {e : Nat} (he : e < 16) : f_Q_withElement (Int64.ofNat (pk l)) (Int32.ofNat l.length) (Int32.ofNat e) = some (Int64.ofNat (pk (l ++ [e]))) := by
  unfold f_Q_withElement
  rw [show (1 : Int32) + Int32.ofNat e = Int32.ofNat (1 + e) from n_add 1 e, n_64 (by omega), five, s_n (by omega), or_n, p32, pk_app]
  congr 2
  have h1 := pkk_lt l h
  rw [← p32] at h1 ⊢
  rw [Nat.mul_comm, Nat.two_pow_add_eq_or_of_lt h1, Nat.or_comm]
theorem without_eq {l : List Nat} (h : ql l) : f_Q_withoutFirst (Int64.ofNat (pk l)) = some (Int64.ofNat (pk l.tail)) := by
  unfold f_Q_withoutFirst
  have h40 := pk_40 h
  rw [show (5 : Int32) = Int32.ofNat 5 from rfl, u_n (by omega) (by decide)]
  congr 2
  cases l with
  | nil => rfl
  | cons a t =>
    have h2 := h.2 a List.mem_cons_self
    simp [pk]; omega
theorem pk_ne1 {l : List Nat} (h : ql l) : Int64.ofNat (pk l) ≠ -1 := by
  intro e
  have h40 := pk_40 h
  have := congrArg Int64.toInt e
  rw [Int64.toInt_ofNat_of_lt (by omega), show (-1 : Int64).toInt = -1 by decide] at this
  omega

-- THE CHANGE ITSELF
theorem e520 : (8 : Int32) * 65 = Int32.ofNat 520 := by decide
theorem L_apply {m : Nat} (hm : m ≤ 7) {lq : Nat → Int32} : ∀ (j i : Nat), i + j = m → ∀ (g : RSt), g.1.1.2.2 65 = Int32.ofNat m → (∀ q, q < i → g.1.2.1.1.1 (520 + q) = lq (q + 1)) → (∀ q, i ≤ q → q ≤ m → g.1.2.1.1.1 (520 + q) = lq q) → ∀ n, ∃ w, L_R_apply_186 (n + (j + 1)) (Int32.ofNat i) g = some w ∧ w.2 = ((g.1.1, (((w.2.1.2.1.1.1, g.1.2.1.1.2), g.1.2.1.2), g.1.2.2)), g.2) ∧ (∀ q, q < m → w.2.1.2.1.1.1 (520 + q) = lq (q + 1)) ∧ (∀ p, (p < 520 ∨ 528 ≤ p) → w.2.1.2.1.1.1 p = g.1.2.1.1.1 p) := by
  intro j
  induction j with
  | zero =>
    intro i hi g hs h1 h2 n
    rw [L_R_apply_186, e65, hs, if_pos ((n_le (by omega) (by omega)).mpr (by omega))]
    exact ⟨_, rfl, rfl, fun q hq => h1 q (by omega), fun _ _ => rfl⟩
  | succ j ih =>
    intro i hi g hs h1 h2 n
    rw [show n + (j + 1 + 1) = (n + (j + 1)) + 1 by omega, L_R_apply_186, e65, hs, if_neg (fun g => absurd ((n_le (by omega) (by omega)).mp g) (by omega))]
    rw [e520, n_add, n_s, if_pos ((n_zin (by omega)).mpr (by omega)), if_pos ((n_zin (by omega)).mpr (by omega)), n_cl (by omega), n_cl (by omega), n_s]
    obtain ⟨w, a1, a2, a3, a4⟩ := ih (i + 1) (by omega) ((g.1.1, (((upd g.1.2.1.1.1 (520 + i) (g.1.2.1.1.1 (520 + i + 1)), g.1.2.1.1.2), g.1.2.1.2), g.1.2.2)), g.2) hs (fun q hq => by
      show upd g.1.2.1.1.1 (520 + i) _ (520 + q) = _
      by_cases e : q = i
      · subst e; rw [upd_at]; exact h2 (q + 1) (by omega) (by omega)
      · rw [upd_ne _ _ (by omega)]; exact h1 q (by omega)) (fun q hq1 hq2 => by
      show upd g.1.2.1.1.1 (520 + i) _ (520 + q) = _
      rw [upd_ne _ _ (by omega)]; exact h2 q (by omega) hq2) n
    refine ⟨w, a1, a2, a3, fun p hp => ?_⟩
    rw [a4 p hp]
    exact upd_ne _ _ (by omega)
theorem pkk_inj : ∀ (l l' : List Nat), (∀ e ∈ l, e < 16) → (∀ e ∈ l', e < 16) → pk l = pk l' → l = l' := by
  intro l
  induction l with
  | nil =>
    intro l' _ _ h
    cases l' with
    | nil => rfl
    | cons a t => simp only [pk] at h; omega
  | cons a t ih =>
    intro l' h1 h2 h
    cases l' with
    | nil => simp only [pk] at h; omega
    | cons b s =>
      have x1 := h1 a List.mem_cons_self
      have x2 := h2 b List.mem_cons_self
      simp only [pk] at h
      have e1 : a = b := by omega
      have e2 : pk t = pk s := by omega
      rw [e1, ih s (fun e he => h1 e (List.mem_cons_of_mem _ he)) (fun e he => h2 e (List.mem_cons_of_mem _ he)) e2]
theorem pk_inj {l l' : List Nat} (h : ql l) (h' : ql l') (e : Int64.ofNat (pk l) = Int64.ofNat (pk l')) : l = l' := by
  have a1 := pk_40 h
  have a2 := pk_40 h'
  have := congrArg Int64.toInt e
  rw [Int64.toInt_ofNat_of_lt (by omega), Int64.toInt_ofNat_of_lt (by omega)] at this
  exact pkk_inj l l' h.2 h'.2 (by omega)
theorem apply_eq {ρ : RSt} {x : TreeV} (h : zTr ρ 65 x) {k : Int32} {z : Int64} (hk : KOK k z) (hf : FIT x k z) : ∃ x' ρ', f_H_apply x k z (ρ.1.2.2.2 + 1) = some x' ∧ f_R_apply ρ k z = some ρ' ∧ zTr ρ' 65 x' ∧ zOt ρ ρ' 65 := by
  obtain ⟨⟨c1, c2, c3, c4, c5, c6, c7, c8, c9⟩, l, hl, hq⟩ := h
  have hl8 := hl.1.1
  obtain ⟨f3, f4, f5, f6⟩ := hf
  unfold f_H_apply f_R_apply
  rcases hk with rfl | rfl | rfl | ⟨rfl, e, he, rfl⟩ | ⟨rfl, e, he, rfl⟩ | ⟨rfl, e, he, rfl⟩ | rfl | rfl | rfl | rfl | rfl
  · rw [if_pos rfl, if_pos rfl, e65]
    refine ⟨_, _, rfl, rfl, ⟨⟨(show vp_updL ρ.1.1.1.1.1 65 (ρ.1.1.1.1.1 65 + z) 65 = x.1 + z by rw [updL_at, c1]), c2, c3, c4, c5, c6, c7, c8, c9⟩, l, hl, hq⟩, ?_⟩
    exact zOt_mk ⟨rfl, rfl⟩ (fun u hu => ⟨updL_ne _ _ hu, rfl, rfl, rfl, rfl, rfl, rfl, rfl, rfl, rfl⟩) (fun _ _ => rfl)
  · rw [if_neg (show ¬ ((1 : Int32) = 0) by decide), if_pos rfl, if_neg (show ¬ ((1 : Int32) = 0) by decide), if_pos rfl, e65]
    refine ⟨_, _, rfl, rfl, ⟨⟨c1, (show upd ρ.1.1.1.1.2 65 _ 65 = _ from upd_at _ _ _), (show upd ρ.1.1.1.2 65 _ 65 = _ from upd_at _ _ _), c4, c5, c6, c7, c8, c9⟩, l, hl, hq⟩, ?_⟩
    exact zOt_mk ⟨rfl, rfl⟩ (fun u hu => ⟨rfl, upd_ne _ _ hu, upd_ne _ _ hu, rfl, rfl, rfl, rfl, rfl, rfl, rfl⟩) (fun _ _ => rfl)
  · rw [if_neg (show ¬ ((2 : Int32) = 0) by decide), if_neg (show ¬ ((2 : Int32) = 1) by decide), if_pos rfl, if_neg (show ¬ ((2 : Int32) = 0) by decide), if_neg (show ¬ ((2 : Int32) = 1) by decide), if_pos rfl, e65]
    refine ⟨_, _, rfl, rfl, ⟨⟨c1, c2, c3, (show upd ρ.1.1.2.1.1 65 _ 65 = _ from upd_at _ _ _), c5, c6, c7, c8, c9⟩, l, hl, hq⟩, ?_⟩
    exact zOt_mk ⟨rfl, rfl⟩ (fun u hu => ⟨rfl, rfl, rfl, upd_ne _ _ hu, rfl, rfl, rfl, rfl, rfl, rfl⟩) (fun _ _ => rfl)
  · rw [if_neg (show ¬ ((3 : Int32) = 0) by decide), if_neg (show ¬ ((3 : Int32) = 1) by decide), if_neg (show ¬ ((3 : Int32) = 2) by decide), if_pos rfl, if_neg (show ¬ ((3 : Int32) = 0) by decide), if_neg (show ¬ ((3 : Int32) = 1) by decide), if_neg (show ¬ ((3 : Int32) = 2) by decide), if_pos rfl, e65]
    obtain ⟨e', he', ee, hb⟩ := f3 rfl
    refine ⟨_, _, rfl, rfl, ⟨⟨c1, c2, c3, c4, (show vp_updL ρ.1.1.2.1.2 65 (ρ.1.1.2.1.2 65 ^^^ (zs_l 1 (Int64.ofNat e).toInt32)) 65 = (x.2.2.2.2.1 ||| (1 <<< ((Int64.ofNat e).toInt32 &&& 31))).toInt64 &&& 4294967295 from ?_), c6, c7, c8, c9⟩, l, hl, hq⟩, ?_⟩
    · rw [updL_at, c5, ee, toI]
      apply bl_ext
      intro u hu
      rw [bl_xor, bl_set _ hu, bl_s1 (by omega) hu, bl_set _ hu]
      by_cases h32 : u < 32
      · rw [bi_or, bi_s1 (by omega) h32]
        by_cases eu : u = e'
        · subst eu; simp [hb, h32]
        · simp [eu, h32]
      · have : ¬ (u = e') := by omega
        simp [h32, this]
    · exact zOt_mk ⟨rfl, rfl⟩ (fun u hu => ⟨rfl, rfl, rfl, rfl, updL_ne _ _ hu, rfl, rfl, rfl, rfl, rfl⟩) (fun _ _ => rfl)
  · rw [if_neg (show ¬ ((4 : Int32) = 0) by decide), if_neg (show ¬ ((4 : Int32) = 1) by decide), if_neg (show ¬ ((4 : Int32) = 2) by decide), if_neg (show ¬ ((4 : Int32) = 3) by decide), if_pos rfl, if_neg (show ¬ ((4 : Int32) = 0) by decide), if_neg (show ¬ ((4 : Int32) = 1) by decide), if_neg (show ¬ ((4 : Int32) = 2) by decide), if_neg (show ¬ ((4 : Int32) = 3) by decide), if_pos rfl, e65]
    obtain ⟨e', he', ee, hb⟩ := f4 rfl
    refine ⟨_, _, rfl, rfl, ⟨⟨c1, c2, c3, c4, (show vp_updL ρ.1.1.2.1.2 65 (ρ.1.1.2.1.2 65 ^^^ (zs_l 1 (Int64.ofNat e).toInt32)) 65 = (x.2.2.2.2.1 &&& ((1 <<< ((Int64.ofNat e).toInt32 &&& 31)) ^^^ (-1))).toInt64 &&& 4294967295 from ?_), c6, c7, c8, c9⟩, l, hl, hq⟩, ?_⟩
    · rw [updL_at, c5, ee, toI]
      apply bl_ext
      intro u hu
      rw [bl_xor, bl_set _ hu, bl_s1 (by omega) hu, bl_set _ hu]
      by_cases h32 : u < 32
      · rw [bi_and, bi_not _ h32, bi_s1 (by omega) h32]
        by_cases eu : u = e'
        · subst eu; simp [hb, h32]
        · simp [eu, h32]
      · have : ¬ (u = e') := by omega
        simp [h32, this]
    · exact zOt_mk ⟨rfl, rfl⟩ (fun u hu => ⟨rfl, rfl, rfl, rfl, updL_ne _ _ hu, rfl, rfl, rfl, rfl, rfl⟩) (fun _ _ => rfl)
  · rw [if_neg (show ¬ ((5 : Int32) = 0) by decide), if_neg (show ¬ ((5 : Int32) = 1) by decide), if_neg (show ¬ ((5 : Int32) = 2) by decide), if_neg (show ¬ ((5 : Int32) = 3) by decide), if_neg (show ¬ ((5 : Int32) = 4) by decide), if_pos rfl, if_neg (show ¬ ((5 : Int32) = 0) by decide), if_neg (show ¬ ((5 : Int32) = 1) by decide), if_neg (show ¬ ((5 : Int32) = 2) by decide), if_neg (show ¬ ((5 : Int32) = 3) by decide), if_neg (show ¬ ((5 : Int32) = 4) by decide), if_pos rfl, e65]
    obtain ⟨e', l', he', ee, hl', hlen⟩ := f5 rfl
    have : l = l' := by
      have h1 := hl.2.1.symm.trans hl'.2.1
      exact pk_inj hl.1 hl'.1 h1
    subst this
    rw [hl.2.1, length_eq hl.1, ob, toI, with_eq hl.1.2 hl.1.1 he, ob, hq.1, e520, n_add, if_pos ((n_zin (by omega)).mpr (by omega)), n_cl (by omega), n_s]
    refine ⟨_, _, rfl, rfl, ⟨⟨c1, c2, c3, c4, c5, c6, c7, c8, c9⟩, l ++ [e], ⟨⟨by simp; omega, fun a ha => ?_⟩, rfl, hl.2.2⟩, ?_, fun i a ha => ?_⟩, ?_⟩
    · rcases List.mem_append.mp ha with g | g
      · exact hl.1.2 a g
      · simp at g; omega
    · show upd ρ.1.1.2.2 65 (Int32.ofNat (l.length + 1)) 65 = Int32.ofNat (l ++ [e]).length
      rw [upd_at, List.length_append]; rfl
    · show upd ρ.1.2.1.1.1 (520 + l.length) _ (520 + i) = _
      by_cases ei : i = l.length
      · subst ei
        rw [upd_at]
        simp at ha
        rw [ha]
      · rw [upd_ne _ _ (by omega)]
        have hi : i < (l ++ [e]).length := (List.getElem?_eq_some_iff.mp ha).1
        simp at hi
        rw [List.getElem?_append_left (by omega)] at ha
        exact hq.2 i a ha
    · exact zOt_mk ⟨rfl, rfl⟩ (fun u hu => ⟨rfl, rfl, rfl, rfl, rfl, rfl, rfl, rfl, rfl, upd_ne _ _ hu⟩) (fun p hp => upd_ne _ _ (by omega))
  · rw [if_neg (show ¬ ((6 : Int32) = 0) by decide), if_neg (show ¬ ((6 : Int32) = 1) by decide), if_neg (show ¬ ((6 : Int32) = 2) by decide), if_neg (show ¬ ((6 : Int32) = 3) by decide), if_neg (show ¬ ((6 : Int32) = 4) by decide), if_neg (show ¬ ((6 : Int32) = 5) by decide), if_pos rfl, if_neg (show ¬ ((6 : Int32) = 0) by decide), if_neg (show ¬ ((6 : Int32) = 1) by decide), if_neg (show ¬ ((6 : Int32) = 2) by decide), if_neg (show ¬ ((6 : Int32) = 3) by decide), if_neg (show ¬ ((6 : Int32) = 4) by decide), if_neg (show ¬ ((6 : Int32) = 5) by decide), if_pos rfl, e65]
    obtain ⟨l', hl', hne⟩ := f6 rfl
    have : l = l' := by
      have h1 := hl.2.1.symm.trans hl'.2.1
      exact pk_inj hl.1 hl'.1 h1
    subst this
    rw [hl.2.1, without_eq hl.1, ob]
    cases l with
    | nil => exact absurd rfl hne
    | cons a t =>
      simp only [List.length_cons] at hl8
      obtain ⟨n, hn⟩ := zfuel_lt (k := t.length) (by omega)
      have hsz : upd ρ.1.1.2.2 65 (ρ.1.1.2.2 65 - 1) 65 = Int32.ofNat t.length := by
        rw [upd_at, hq.1, List.length_cons]; exact n_m _
      obtain ⟨w, a1, a2, a3, a4⟩ := L_apply (m := t.length) (by omega) (lq := fun q => ρ.1.2.1.1.1 (520 + q)) t.length 0 (by omega) (((ρ.1.1.1, (ρ.1.1.2.1, upd ρ.1.1.2.2 65 (ρ.1.1.2.2 65 - 1))), ρ.1.2), ρ.2) hsz (fun q hq => absurd hq (by omega)) (fun q _ _ => rfl) n
      rw [hn, show L_R_apply_186 (n + (t.length + 1)) 0 _ = some w from a1, ob]
      have ht : ∀ e ∈ t, e < 16 := fun e he => hl.1.2 e (List.mem_cons_of_mem _ he)
      refine ⟨_, _, rfl, rfl, ⟨?_, t, ⟨⟨by omega, ht⟩, rfl, hl.2.2⟩, ?_, fun i e he => ?_⟩, ?_⟩
      · rw [a2]; exact ⟨c1, c2, c3, c4, c5, c6, c7, c8, c9⟩
      · rw [a2]; exact hsz
      · have hi : i < t.length := (List.getElem?_eq_some_iff.mp he).1
        show w.2.1.2.1.1.1 (520 + i) = _
        rw [a3 i hi]
        exact hq.2 (i + 1) e (by simpa using he)
      · rw [a2]
        exact zOt_mk ⟨rfl, rfl⟩ (fun u hu => ⟨rfl, rfl, rfl, rfl, rfl, rfl, rfl, rfl, rfl, upd_ne _ _ hu⟩) (fun p hp => a4 p (by omega))
  · rw [if_neg (show ¬ ((7 : Int32) = 0) by decide), if_neg (show ¬ ((7 : Int32) = 1) by decide), if_neg (show ¬ ((7 : Int32) = 2) by decide), if_neg (show ¬ ((7 : Int32) = 3) by decide), if_neg (show ¬ ((7 : Int32) = 4) by decide), if_neg (show ¬ ((7 : Int32) = 5) by decide), if_neg (show ¬ ((7 : Int32) = 6) by decide), if_pos rfl, if_neg (show ¬ ((7 : Int32) = 0) by decide), if_neg (show ¬ ((7 : Int32) = 1) by decide), if_neg (show ¬ ((7 : Int32) = 2) by decide), if_neg (show ¬ ((7 : Int32) = 3) by decide), if_neg (show ¬ ((7 : Int32) = 4) by decide), if_neg (show ¬ ((7 : Int32) = 5) by decide), if_neg (show ¬ ((7 : Int32) = 6) by decide), if_pos rfl, e65]
    have key : ∀ v, v = x.2.2.2.2.2.2.2.1 + z → J_R_apply_264 ρ v = some ((ρ.1.1, (((ρ.1.2.1.1.1, upd ρ.1.2.1.1.2 65 1), vp_updL ρ.1.2.1.2 65 (x.2.2.2.2.2.2.2.1 + z)), ρ.1.2.2)), ρ.2) := by
      intro v hv
      unfold J_R_apply_264
      rw [e65, nar_1, hv]
    have : (if ρ.1.2.1.1.2 65 = 0 then J_R_apply_264 ρ z else J_R_apply_264 ρ (ρ.1.2.1.2 65 + z)) = some ((ρ.1.1, (((ρ.1.2.1.1.1, upd ρ.1.2.1.1.2 65 1), vp_updL ρ.1.2.1.2 65 (x.2.2.2.2.2.2.2.1 + z)), ρ.1.2.2)), ρ.2) := by
      rcases hl.2.2.1 with g | g
      · rw [if_pos (c6.trans g)]; exact key _ (by rw [hl.2.2.2 g, Int64.zero_add])
      · rw [if_neg (show ¬ (ρ.1.2.1.1.2 65 = 0) by rw [c6, g]; decide)]; exact key _ (by rw [c7])
    rw [this]
    refine ⟨_, _, rfl, rfl, ⟨⟨c1, c2, c3, c4, c5, (show upd ρ.1.2.1.1.2 65 _ 65 = _ from upd_at _ _ _), (show vp_updL ρ.1.2.1.2 65 _ 65 = _ from updL_at _ _ _), c8, c9⟩, l, ⟨hl.1, hl.2.1, Or.inr rfl, fun g => absurd g (show ¬ ((1 : Int32) = 0) by decide)⟩, hq⟩, ?_⟩
    exact zOt_mk ⟨rfl, rfl⟩ (fun u hu => ⟨rfl, rfl, rfl, rfl, rfl, upd_ne _ _ hu, updL_ne _ _ hu, rfl, rfl, rfl⟩) (fun _ _ => rfl)
  · rw [if_neg (show ¬ ((8 : Int32) = 0) by decide), if_neg (show ¬ ((8 : Int32) = 1) by decide), if_neg (show ¬ ((8 : Int32) = 2) by decide), if_neg (show ¬ ((8 : Int32) = 3) by decide), if_neg (show ¬ ((8 : Int32) = 4) by decide), if_neg (show ¬ ((8 : Int32) = 5) by decide), if_neg (show ¬ ((8 : Int32) = 6) by decide), if_neg (show ¬ ((8 : Int32) = 7) by decide), if_pos rfl, if_neg (show ¬ ((8 : Int32) = 0) by decide), if_neg (show ¬ ((8 : Int32) = 1) by decide), if_neg (show ¬ ((8 : Int32) = 2) by decide), if_neg (show ¬ ((8 : Int32) = 3) by decide), if_neg (show ¬ ((8 : Int32) = 4) by decide), if_neg (show ¬ ((8 : Int32) = 5) by decide), if_neg (show ¬ ((8 : Int32) = 6) by decide), if_neg (show ¬ ((8 : Int32) = 7) by decide), if_pos rfl, e65, nar_0]
    refine ⟨_, _, rfl, rfl, ⟨⟨c1, c2, c3, c4, c5, (show upd ρ.1.2.1.1.2 65 _ 65 = _ from upd_at _ _ _), (show vp_updL ρ.1.2.1.2 65 _ 65 = _ from updL_at _ _ _), c8, c9⟩, l, ⟨hl.1, hl.2.1, Or.inl rfl, fun _ => rfl⟩, hq⟩, ?_⟩
    exact zOt_mk ⟨rfl, rfl⟩ (fun u hu => ⟨rfl, rfl, rfl, rfl, rfl, upd_ne _ _ hu, updL_ne _ _ hu, rfl, rfl, rfl⟩) (fun _ _ => rfl)
  · rw [if_neg (show ¬ ((9 : Int32) = 0) by decide), if_neg (show ¬ ((9 : Int32) = 1) by decide), if_neg (show ¬ ((9 : Int32) = 2) by decide), if_neg (show ¬ ((9 : Int32) = 3) by decide), if_neg (show ¬ ((9 : Int32) = 4) by decide), if_neg (show ¬ ((9 : Int32) = 5) by decide), if_neg (show ¬ ((9 : Int32) = 6) by decide), if_neg (show ¬ ((9 : Int32) = 7) by decide), if_neg (show ¬ ((9 : Int32) = 8) by decide), if_pos rfl, if_neg (show ¬ ((9 : Int32) = 0) by decide), if_neg (show ¬ ((9 : Int32) = 1) by decide), if_neg (show ¬ ((9 : Int32) = 2) by decide), if_neg (show ¬ ((9 : Int32) = 3) by decide), if_neg (show ¬ ((9 : Int32) = 4) by decide), if_neg (show ¬ ((9 : Int32) = 5) by decide), if_neg (show ¬ ((9 : Int32) = 6) by decide), if_neg (show ¬ ((9 : Int32) = 7) by decide), if_neg (show ¬ ((9 : Int32) = 8) by decide), if_pos rfl, e65]
    refine ⟨_, _, rfl, rfl, ⟨⟨c1, c2, c3, c4, c5, c6, c7, (show vp_updL ρ.1.2.2.1.1 65 (ρ.1.2.2.1.1 65 + z) 65 = x.2.2.2.2.2.2.2.2.1 + z by rw [updL_at, c8]), c9⟩, l, hl, hq⟩, ?_⟩
    exact zOt_mk ⟨rfl, rfl⟩ (fun u hu => ⟨rfl, rfl, rfl, rfl, rfl, rfl, rfl, updL_ne _ _ hu, rfl, rfl⟩) (fun _ _ => rfl)
  · rw [if_neg (show ¬ ((10 : Int32) = 0) by decide), if_neg (show ¬ ((10 : Int32) = 1) by decide), if_neg (show ¬ ((10 : Int32) = 2) by decide), if_neg (show ¬ ((10 : Int32) = 3) by decide), if_neg (show ¬ ((10 : Int32) = 4) by decide), if_neg (show ¬ ((10 : Int32) = 5) by decide), if_neg (show ¬ ((10 : Int32) = 6) by decide), if_neg (show ¬ ((10 : Int32) = 7) by decide), if_neg (show ¬ ((10 : Int32) = 8) by decide), if_neg (show ¬ ((10 : Int32) = 9) by decide), if_pos rfl, if_neg (show ¬ ((10 : Int32) = 0) by decide), if_neg (show ¬ ((10 : Int32) = 1) by decide), if_neg (show ¬ ((10 : Int32) = 2) by decide), if_neg (show ¬ ((10 : Int32) = 3) by decide), if_neg (show ¬ ((10 : Int32) = 4) by decide), if_neg (show ¬ ((10 : Int32) = 5) by decide), if_neg (show ¬ ((10 : Int32) = 6) by decide), if_neg (show ¬ ((10 : Int32) = 7) by decide), if_neg (show ¬ ((10 : Int32) = 8) by decide), if_neg (show ¬ ((10 : Int32) = 9) by decide), e65]
    refine ⟨_, _, rfl, rfl, ⟨⟨c1, c2, c3, c4, c5, c6, c7, c8, (show upd ρ.1.2.2.1.2 65 _ 65 = _ from upd_at _ _ _)⟩, l, hl, hq⟩, ?_⟩
    exact zOt_mk ⟨rfl, rfl⟩ (fun u hu => ⟨rfl, rfl, rfl, rfl, rfl, rfl, rfl, rfl, upd_ne _ _ hu, rfl⟩) (fun _ _ => rfl)

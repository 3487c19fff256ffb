-- THE INVARIANT, AND WHAT ONLY READS
def HW (σ : VSt) (ρ : RSt) : Prop := σ.2.2.2.1 = ρ.2.1.2.1.2 ∧ σ.2.2.2.2.1 = ρ.2.1.2.2 ∧ σ.2.1 = ρ.2.2.1.1.1 ∧ (∃ e, e ≤ 100 ∧ ρ.2.2.1.1.1 = Int32.ofNat e) ∧ σ.2.2.2.2.2.1 = ρ.2.2.1.1.2
def INV (n : Nat) (σ : VSt) (ρ : RSt) (cm : Nat → Option ComV) (tm : Nat → Option TreeV) : Prop := n ≤ 60 ∧ σ.1 = Int32.ofNat n ∧ ρ.1.2.2.2 = Int32.ofNat n ∧ HW σ ρ ∧ (∀ b, b < 4 → ρ.2.1.2.1.2 b = -1 ∨ ∃ c, c < n ∧ ρ.2.1.2.1.2 b = Int32.ofNat c) ∧ zTr ρ 66 zT0 ∧ CMT n σ ρ cm tm
def Inv (σ : VSt) (ρ : RSt) (cm : Nat → Option ComV) (tm : Nat → Option TreeV) : Prop := ∃ n, INV n σ ρ cm tm
theorem br_cases (k : Int32) : (∃ i, i < 4 ∧ k = Int32.ofNat i ∧ f_V_isBranch k = some 1 ∧ f_R_isBranch k = some 1) ∨ (f_V_isBranch k = some 0 ∧ f_R_isBranch k = some 0) := by
  unfold f_V_isBranch f_R_isBranch
  rcases n_cases k with h | ⟨i, hi, rfl⟩
  · right; rw [if_pos h, if_pos h]; exact ⟨rfl, rfl⟩
  · rw [if_neg (n_nn hi), if_neg (n_nn hi)]
    by_cases h4 : i < 4
    · left
      refine ⟨i, h4, rfl, ?_, ?_⟩
      · rw [if_neg (fun g => absurd ((le_c 4 (by decide) hi).mp g) (by omega))]
      · rw [if_neg (fun g => absurd ((lt_c 3 (by decide) hi).mp g) (by omega))]
    · right
      rw [if_pos ((le_c 4 (by decide) hi).mpr (by omega)), if_pos ((lt_c 3 (by decide) hi).mpr (by omega))]
      exact ⟨rfl, rfl⟩
theorem r_commits : zs_commits Inv := by
  rintro σ ρ cm tm ⟨n, h1, h2, h3, h4, h5, h6, h7⟩
  exact ⟨_, congrArg some h2, congrArg some h3⟩
theorem r_events : zs_events Inv := by
  rintro σ ρ cm tm ⟨n, h1, h2, h3, ⟨h41, h42, h43, h44, h45⟩, h5, h6, h7⟩
  exact ⟨_, congrArg some h43, rfl⟩
theorem r_event : zs_event Inv := by
  rintro k σ ρ cm tm ⟨n, h1, h2, h3, ⟨h41, h42, h43, ⟨e, he, h44⟩, h45⟩, h5, h6, h7⟩
  show ∃ v, f_V_event zT0 cm tm σ k = some v ∧ f_R_event ρ k = some v
  unfold f_V_event f_R_event
  rw [h43, h44, h45]
  rcases n_cases k with h | ⟨i, hi, rfl⟩
  · rw [if_pos h]; exact ⟨_, rfl, rfl⟩
  · rw [if_neg (n_nn hi)]
    by_cases h : e ≤ i
    · rw [if_pos ((n_le (by omega) hi).mpr h)]; exact ⟨_, rfl, rfl⟩
    · have g1 : ¬ (Int32.ofNat e ≤ Int32.ofNat i) := fun g => h ((n_le (by omega) hi).mp g)
      rw [if_neg g1, if_pos ((n_zin hi).mpr (by omega))]; exact ⟨_, rfl, rfl⟩
theorem r_head : zs_head Inv := by
  rintro k σ ρ cm tm ⟨n, h1, h2, h3, ⟨h41, h42, h43, h44, h45⟩, h5, h6, h7⟩
  show ∃ v, f_V_head zT0 cm tm σ k = some v ∧ f_R_head ρ k = some v
  unfold f_V_head f_R_head
  rcases br_cases k with ⟨i, hi, rfl, e1, e2⟩ | ⟨e1, e2⟩
  · have z4 : zin (Int32.ofNat i) 4 := (n_zin (by omega)).mpr hi
    have ki := n_cl (show i < 2147483648 by omega)
    rw [e1, e2, ob, ob, if_neg (show ¬ ((1 : Int32) = 0) by decide), if_neg (show ¬ ((1 : Int32) = 0) by decide), if_pos z4, if_pos z4, if_pos z4, if_pos z4, h41]
    rcases h5 i hi with g | ⟨c, hc, g⟩
    · have g' : ρ.2.1.2.1.2 (Int32.ofNat i).toNatClampNeg = -1 := by rw [ki]; exact g
      rw [if_pos g', if_pos (show ρ.2.1.2.1.2 (Int32.ofNat i).toNatClampNeg < 0 by rw [g']; decide)]; exact ⟨_, rfl, rfl⟩
    · have g' : ρ.2.1.2.1.2 (Int32.ofNat i).toNatClampNeg = Int32.ofNat c := by rw [ki]; exact g
      rw [g', if_neg (n_ne1 (by omega)), if_neg (n_nn (by omega))]; exact ⟨_, rfl, rfl⟩
  · rw [e1, e2, ob, ob, if_pos rfl, if_pos rfl]; exact ⟨_, rfl, rfl⟩
theorem r_time : zs_time Inv := by
  rintro k σ ρ cm tm ⟨n, h1, h2, h3, h4, h5, h6, h7⟩
  show ∃ v, f_V_time zT0 cm tm σ k = some v ∧ f_R_time ρ k = some v
  unfold f_V_time f_R_time
  rcases com_cases h1 k with ⟨i, hi, rfl⟩ | h
  · obtain ⟨y, c, t, c1, c2, c3, c4, c5, c6, c7, c8, c9, c10, c11, c12⟩ := h7 i hi
    rw [commitAt_y h1 h2 hi c1, risCommit_y h1 h3 hi, ob, ob, if_neg (by decide), zo_some, c2, ob, c6, n_s]
    exact ⟨_, rfl, rfl⟩
  · rw [commitAt_n h1 h2 h, risCommit_n h1 h3 h, ob, ob, if_pos rfl]; exact ⟨_, rfl, rfl⟩
theorem r_hash : zs_hash Inv := by
  rintro k σ ρ cm tm ⟨n, h1, h2, h3, h4, h5, h6, h7⟩
  show ∃ v, f_V_hash zT0 cm tm σ k = some v ∧ f_R_hash ρ k = some v
  unfold f_V_hash f_R_hash
  rcases com_cases h1 k with ⟨i, hi, rfl⟩ | h
  · obtain ⟨y, c, t, c1, c2, c3, c4, c5, c6, c7, c8, c9, c10, c11, c12⟩ := h7 i hi
    rw [commitAt_y h1 h2 hi c1, risCommit_y h1 h3 hi, ob, ob, if_neg (by decide), zo_some, c2, ob, c10, if_pos ((n_zin (by omega)).mpr (by omega)), n_cl (by omega)]
    exact ⟨_, rfl, rfl⟩
  · rw [commitAt_n h1 h2 h, risCommit_n h1 h3 h, ob, ob, if_pos rfl]; exact ⟨_, rfl, rfl⟩
theorem r_parent : zs_parent Inv := by
  rintro k j σ ρ cm tm ⟨n, h1, h2, h3, h4, h5, h6, h7⟩
  show ∃ v, f_V_parent zT0 cm tm σ k j = some v ∧ f_R_parent ρ k j = some v
  unfold f_V_parent f_R_parent
  rcases com_cases h1 k with ⟨i, hi, rfl⟩ | h
  · obtain ⟨y, c, t, c1, c2, c3, c4, c5, c6, c7, c8, c9, c10, c11, c12⟩ := h7 i hi
    have z6 : zin (Int32.ofNat i) 60 := (n_zin (by omega)).mpr (by omega)
    have ki := n_cl (show i < 2147483648 by omega)
    rw [commitAt_y h1 h2 hi c1, risCommit_y h1 h3 hi, ob, ob, if_neg (show ¬ ((1 : Int32) = 0) by decide), zo_some, if_pos z6, if_pos z6, c2, ob, ob]
    have par : ∀ o v, PAR σ i o v → ∃ r, zo_m o (some (-1 : Int32)) (fun y26 => Option.bind (cm y26) (fun o49 => some o49.1)) = some r ∧ (if 0 ≤ v then some v else some (-1 : Int32)) = some r := by
      rintro o v (⟨e1, e2⟩ | ⟨p, yp, hp, e1, e2, e3⟩)
      · rw [e1, e2, zo_none, if_neg (by decide)]; exact ⟨_, rfl, rfl⟩
      · obtain ⟨y', c', t', d1, d2, d3, d4, d5, d6, d7⟩ := h7 p (by omega)
        rw [e2] at d1
        obtain rfl := Option.some.inj d1
        rw [e1, e3, zo_some, d2, ob, d5, if_pos (n_p (by omega))]; exact ⟨_, rfl, rfl⟩
    have q1 : ρ.2.1.1.1.1 (Int32.ofNat i).toNatClampNeg = ρ.2.1.1.1.1 i := by rw [ki]
    have q2 : ρ.2.1.1.1.2 (Int32.ofNat i).toNatClampNeg = ρ.2.1.1.1.2 i := by rw [ki]
    rw [q1, q2]
    rcases n_cases j with hj | ⟨m, hm, rfl⟩
    · have hj0 : ¬ (j = 0) := fun g => by rw [g] at hj; exact absurd hj (by decide)
      have hj1 : ¬ (j = 1) := fun g => by rw [g] at hj; exact absurd hj (by decide)
      rw [if_pos hj, if_neg hj0, if_neg hj1]; exact ⟨_, rfl, rfl⟩
    · rw [if_neg (n_nn hm)]
      by_cases m0 : m = 0
      · subst m0
        rw [if_pos (show Int32.ofNat 0 ≤ 1 by decide), if_pos (show Int32.ofNat 0 = 0 from rfl), if_pos (show Int32.ofNat 0 = 0 from rfl)]
        exact par _ _ c7
      · have hj0 : ¬ (Int32.ofNat m = 0) := fun g => m0 ((c_eq 0 (by decide) hm).mp g)
        rw [if_neg hj0, if_neg hj0]
        by_cases m1 : m = 1
        · subst m1
          rw [if_pos (show Int32.ofNat 1 ≤ 1 by decide), if_pos (show Int32.ofNat 1 = 1 from rfl)]
          exact par _ _ c8
        · have hj1 : ¬ (Int32.ofNat m = 1) := fun g => m1 ((c_eq 1 (by decide) hm).mp g)
          rw [if_neg hj1, if_neg (fun g => absurd ((c_le 1 (by decide) hm).mp g) (by omega))]; exact ⟨_, rfl, rfl⟩
  · rw [commitAt_n h1 h2 h, risCommit_n h1 h3 h, ob, ob, if_pos rfl]; exact ⟨_, rfl, rfl⟩
theorem anc_L {ρ : RSt} {c : Nat} (hc : c < 60) : ∀ (k i : Nat), i + k = 60 → ∀ m, ∃ w, L_R_ancestors_14 ρ (Int32.ofNat c) (m + (k + 1)) (Int32.ofNat i) (Int32.ofNat (ct (bl (ρ.2.1.1.2 c)) i)) = some (w, Int32.ofNat (ct (bl (ρ.2.1.1.2 c)) 60)) := by
  intro k
  induction k with
  | zero =>
    intro i hi m
    have e : i = 60 := by omega
    subst e
    rw [L_R_ancestors_14, if_pos ((le_c 60 (by decide) (by omega)).mpr (by omega))]
    exact ⟨_, rfl⟩
  | succ k ih =>
    intro i hi m
    rw [show m + (k + 1 + 1) = (m + (k + 1)) + 1 by omega, L_R_ancestors_14, if_neg (fun g => absurd ((le_c 60 (by decide) (by omega)).mp g) (by omega)), if_pos ((n_zin (by omega)).mpr hc), n_cl (by omega), n_s, n_s]
    have hct : ct (bl (ρ.2.1.1.2 c)) (i + 1) = ct (bl (ρ.2.1.1.2 c)) i + if bl (ρ.2.1.1.2 c) i then 1 else 0 := rfl
    have := ih (i + 1) (by omega) m
    by_cases g : bl (ρ.2.1.1.2 c) i = true
    · rw [if_pos ((t_r1 _ (by omega)).mpr g)]
      rw [g] at hct
      rw [hct] at this
      exact this
    · rw [if_neg (fun e => g ((t_r1 _ (by omega)).mp e))]
      rw [if_neg g] at hct
      rw [hct] at this
      exact this
theorem r_ancestors : zs_ancestors Inv := by
  rintro k σ ρ cm tm ⟨n, h1, h2, h3, h4, h5, h6, h7⟩
  show ∃ v, f_V_ancestors zT0 cm tm σ k = some v ∧ f_R_ancestors ρ k = some v
  unfold f_V_ancestors f_R_ancestors
  rcases com_cases h1 k with ⟨i, hi, rfl⟩ | h
  · obtain ⟨y, c, t, c1, c2, c3, c4, c5, c6, c7, c8, c9, c10, c11, c12⟩ := h7 i hi
    obtain ⟨m, hm⟩ := zfuel_lt (k := 60) (by omega)
    obtain ⟨w, hw⟩ := anc_L (ρ := ρ) (c := i) (by omega) 60 0 rfl m
    rw [commitAt_y h1 h2 hi c1, risCommit_y h1 h3 hi, ob, ob, if_neg (by decide), zo_some, c2, ob, popL, ob, hm, show L_R_ancestors_14 ρ (Int32.ofNat i) (m + (60 + 1)) 0 0 = _ from hw, ob, c9, show (64 : Nat) = 60 + 4 from rfl, ct_off (fun q hq => c11 q (by omega))]
    exact ⟨_, rfl, rfl⟩
  · rw [commitAt_n h1 h2 h, risCommit_n h1 h3 h, ob, ob, if_pos rfl]; exact ⟨_, rfl, rfl⟩
theorem r_queued : zs_queued Inv := by
  rintro k j σ ρ cm tm ⟨n, h1, h2, h3, h4, h5, h6, h7⟩
  show ∃ v, f_V_queued zT0 cm tm σ k j = some v ∧ f_R_queued ρ k j = some v
  unfold f_V_queued f_R_queued
  rcases com_cases h1 k with ⟨i, hi, rfl⟩ | h
  · obtain ⟨y, c, t, c1, c2, c3, ⟨c41, l, hl, hq⟩, c5, c6, c7, c8, c9, c10, c11, c12⟩ := h7 i hi
    have ki := n_cl (show i < 2147483648 by omega)
    have hl8 := hl.1.1
    have q1 : ρ.1.1.2.2 (Int32.ofNat i).toNatClampNeg = Int32.ofNat l.length := by rw [ki]; exact hq.1
    rw [commitAt_y h1 h2 hi c1, risCommit_y h1 h3 hi, ob, ob, if_neg (show ¬ ((1 : Int32) = 0) by decide), zo_some, c2, ob, c3, ob, hl.2.1, length_eq hl.1, ob, if_pos ((n_zin (by omega)).mpr (by omega)), q1]
    rcases n_cases j with hj | ⟨m, hm, rfl⟩
    · rw [if_pos hj, if_pos hj]; exact ⟨_, rfl, rfl⟩
    · rw [if_neg (n_nn hm), if_neg (n_nn hm)]
      by_cases g : m < l.length
      · have e : l[m]? = some l[m] := List.getElem?_eq_getElem g
        rw [if_pos ((n_lt hm (by omega)).mpr g), if_neg (fun e => absurd ((n_le (by omega) hm).mp e) (by omega)), elementAt_eq hl.1 (by omega), ob, eight, if_pos ((n_zin (by omega)).mpr (by omega)), n_cl (by omega), e, hq.2 m _ e]
        exact ⟨_, rfl, rfl⟩
      · rw [if_neg (fun e => g ((n_lt hm (by omega)).mp e)), if_pos ((n_le (by omega) hm).mpr (by omega))]; exact ⟨_, rfl, rfl⟩
  · rw [commitAt_n h1 h2 h, risCommit_n h1 h3 h, ob, ob, if_pos rfl]; exact ⟨_, rfl, rfl⟩
theorem meet_L {A : Nat → Int64} {n c d : Nat} (hn : n ≤ 60) {m : Int64} (hm : ∀ e < 60, bl m e = (decide (e < n) && mtb A n c d e)) {i : Nat} (hi : i < 60) : ∀ (k j : Nat), j + k = i → ∀ q, ∃ w, L_V_meet_57 (Int32.ofNat i) m (q + (k + 1)) (Int32.ofNat j) (qn (ML A n c d 0)[j]?) = some (w, qn (ML A n c d 0)[i]?) := by
  intro k
  induction k with
  | zero =>
    intro j hj q
    have e : j = i := by omega
    subst e
    rw [L_V_meet_57, if_pos ((n_le (by omega) (by omega)).mpr (by omega))]
    exact ⟨_, rfl⟩
  | succ k ih =>
    intro j hj q
    rw [show q + (k + 1 + 1) = (q + (k + 1)) + 1 by omega, L_V_meet_57, if_neg (fun g => absurd ((n_le (by omega) (by omega)).mp g) (by omega))]
    cases hv : (ML A n c d 0)[j]? with
    | none =>
      have : (ML A n c d 0)[i]? = none := by
        rw [List.getElem?_eq_none_iff] at hv ⊢
        omega
      rw [this, qn_n, if_pos rfl]
      exact ⟨_, rfl⟩
    | some v =>
      have hv' := ML_mem (List.mem_of_getElem? hv)
      rw [qn_s, if_neg (n_ne1 (by omega)), n_s, n_s, nextIn_eq hn hm (by omega), ob, ML_next n 0 j v (by omega) hv 0, Nat.add_zero]
      exact ih (j + 1) (by omega) q
theorem r_meet : zs_meet Inv := by
  rintro k j i σ ρ cm tm ⟨n, h1, h2, h3, h4, h5, h6, h7⟩
  show ∃ v, f_V_meet zT0 cm tm σ k j i = some v ∧ f_R_meet ρ k j i = some v
  unfold f_V_meet f_R_meet
  rcases com_cases h1 k with ⟨c, hc, rfl⟩ | h
  · obtain ⟨y, co, t, c1, c2⟩ := h7 c hc
    rw [commitAt_y h1 h2 hc c1, risCommit_y h1 h3 hc, ob, ob, if_neg (by decide), zo_some]
    rcases com_cases h1 j with ⟨d, hd, rfl⟩ | h'
    · obtain ⟨y', co', t', d1, d2⟩ := h7 d hd
      rw [commitAt_y h1 h2 hd d1, risCommit_y h1 h3 hd, ob, ob, if_neg (by decide), zo_some]
      rcases n_cases i with hi | ⟨q, hq, rfl⟩
      · rw [if_pos hi, if_pos hi]; exact ⟨_, rfl, rfl⟩
      · rw [if_neg (n_nn hq), if_neg (n_nn hq), meetOf_eq h1 h3 (by omega) (by omega) hq, ob]
        have fin : ∀ o : Option Nat, (∀ v, o = some v → v < 60) → (if qn o = (-1 : Int32) then some (-1 : Int32) else some (qn o)) = some (qn o) ∧ (if 0 ≤ qn o then some (qn o) else some (-1 : Int32)) = some (qn o) := by
          intro o ho
          cases o with
          | none => rw [qn_n]; exact ⟨rfl, rfl⟩
          | some v =>
            have := ho v rfl
            rw [qn_s, if_neg (n_ne1 (by omega)), if_pos (n_p (by omega))]; exact ⟨rfl, rfl⟩
        have hv : ∀ v, (ML ρ.2.1.1.2 n c d 0)[q]? = some v → v < 60 := fun v e => by
          have := ML_mem (List.mem_of_getElem? e); omega
        by_cases g : q < 60
        · obtain ⟨m, m1, m2⟩ := meetsOf_eq (em := zT0) h1 h2 h7 hc hd c1 d1
          obtain ⟨z, hz⟩ := zfuel_lt (k := q) (by omega)
          obtain ⟨w, hw⟩ := meet_L h1 m2 g q 0 (by omega) z
          have hn0 : f_V_nextIn m 0 = some (qn (ML ρ.2.1.1.2 n c d 0)[0]?) := nextIn_eq h1 m2 (e := 0) (by omega)
          rw [if_pos ((c_lt 60 (by decide) hq).mpr g), m1, ob, hn0, ob, hz, show L_V_meet_57 (Int32.ofNat q) m (z + (q + 1)) 0 _ = _ from hw, ob]
          exact ⟨_, (fin _ hv).1, (fin _ hv).2⟩
        · have hnone : (ML ρ.2.1.1.2 n c d 0)[q]? = none := List.getElem?_eq_none (by have := ML_len ρ.2.1.1.2 n c d 0; omega)
          rw [if_neg (fun e => g ((c_lt 60 (by decide) hq).mp e)), hnone]
          exact ⟨_, rfl, rfl⟩
    · rw [commitAt_n h1 h2 h', risCommit_n h1 h3 h', ob, ob, if_pos rfl]; exact ⟨_, rfl, rfl⟩
  · rw [commitAt_n h1 h2 h, risCommit_n h1 h3 h, ob, ob, if_pos rfl, zo_none]
    rcases com_cases h1 j with ⟨d, hd, rfl⟩ | h'
    · obtain ⟨y', co', t', d1, d2⟩ := h7 d hd
      rw [commitAt_y h1 h2 hd d1, ob]; exact ⟨_, rfl, rfl⟩
    · rw [commitAt_n h1 h2 h', ob]; exact ⟨_, rfl, rfl⟩
theorem r_value : zs_value Inv := by
  rintro k j σ ρ cm tm ⟨n, h1, h2, h3, h4, h5, h6, h7⟩
  show ∃ v, f_V_value zT0 cm tm σ k j = some v ∧ f_R_value ρ k j = some v
  unfold f_V_value f_R_value
  rcases com_cases h1 k with ⟨i, hi, rfl⟩ | h
  · obtain ⟨y, c, t, c1, c2, c3, ⟨⟨t1, t2, t3, t4, t5, t6, t7, t8, t9⟩, l, hl, hq⟩, c5, c6, c7, c8, c9, c10, c11, c12⟩ := h7 i hi
    have z6 : zin (Int32.ofNat i) 67 := (n_zin (by omega)).mpr (by omega)
    have ki := n_cl (show i < 2147483648 by omega)
    rw [commitAt_y h1 h2 hi c1, risCommit_y h1 h3 hi, ob, ob, if_neg (show ¬ ((1 : Int32) = 0) by decide), zo_some, c2, ob]
    simp only [c3, ob, if_pos z6, ki, t1, t2, t3, t4, t5, t6, t7, t8, t9, hq.1, hl.2.1, length_eq hl.1, f_T_setAsSum]
    by_cases j0 : j = 0
    · (first | rw [if_pos j0, if_pos j0] | rw [if_pos j0]); exact ⟨_, rfl, rfl⟩
    (first | rw [if_neg j0, if_neg j0] | rw [if_neg j0])
    by_cases j1 : j = 1
    · (first | rw [if_pos j1, if_pos j1] | rw [if_pos j1]); exact ⟨_, rfl, rfl⟩
    (first | rw [if_neg j1, if_neg j1] | rw [if_neg j1])
    by_cases j2 : j = 2
    · (first | rw [if_pos j2, if_pos j2] | rw [if_pos j2]); exact ⟨_, rfl, rfl⟩
    (first | rw [if_neg j2, if_neg j2] | rw [if_neg j2])
    by_cases j3 : j = 3
    · (first | rw [if_pos j3, if_pos j3] | rw [if_pos j3]); exact ⟨_, rfl, rfl⟩
    (first | rw [if_neg j3, if_neg j3] | rw [if_neg j3])
    by_cases j4 : j = 4
    · (first | rw [if_pos j4, if_pos j4] | rw [if_pos j4]); exact ⟨_, rfl, rfl⟩
    (first | rw [if_neg j4, if_neg j4] | rw [if_neg j4])
    by_cases j5 : j = 5
    · (first | rw [if_pos j5, if_pos j5] | rw [if_pos j5]); exact ⟨_, rfl, rfl⟩
    (first | rw [if_neg j5, if_neg j5] | rw [if_neg j5])
    by_cases j6 : j = 6
    · (first | rw [if_pos j6, if_pos j6] | rw [if_pos j6])
      rcases hl.2.2.1 with g | g
      · rw [if_pos g, hl.2.2.2 g]; exact ⟨_, rfl, rfl⟩
      · rw [if_neg (by rw [g]; decide)]; exact ⟨_, rfl, rfl⟩
    (first | rw [if_neg j6, if_neg j6] | rw [if_neg j6])
    by_cases j7 : j = 7
    · (first | rw [if_pos j7, if_pos j7] | rw [if_pos j7])
      rcases hl.2.2.1 with g | g
      · rw [if_pos g]; exact ⟨_, rfl, rfl⟩
      · have g' : ¬ (t.2.2.2.2.2.2.1 = 0) := by rw [g]; decide
        rw [if_neg g']; exact ⟨_, rfl, rfl⟩
    (first | rw [if_neg j7, if_neg j7] | rw [if_neg j7])
    by_cases j8 : j = 8
    · (first | rw [if_pos j8, if_pos j8] | rw [if_pos j8]); exact ⟨_, rfl, rfl⟩
    (first | rw [if_neg j8, if_neg j8] | rw [if_neg j8])
    by_cases j9 : j = 9
    · (first | rw [if_pos j9, if_pos j9] | rw [if_pos j9]); exact ⟨_, rfl, rfl⟩
    (first | rw [if_neg j9, if_neg j9] | rw [if_neg j9])
    exact ⟨_, rfl, rfl⟩
  · rw [commitAt_n h1 h2 h, risCommit_n h1 h3 h, ob, ob, if_pos rfl]; exact ⟨_, rfl, rfl⟩

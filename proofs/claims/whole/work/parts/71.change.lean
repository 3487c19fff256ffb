-- CHANGE AND MERGE
theorem mk_of {F : (Nat → Option ComV) → (Nat → Option TreeV) → VSt → Nat × Nat → Option (Int32 × VSt × Option (ComV × TreeV))} {G : RSt → Option (Int32 × RSt)} (h : ∀ σ ρ cm tm, Inv σ ρ cm tm → MK cm tm (F cm tm σ) (G ρ)) : zst_mk Inv F G := by
  intro σ ρ cm tm hi
  obtain ⟨w, w1, w2⟩ := h σ ρ cm tm hi
  refine ⟨fun q => Classical.choose (w2 q), w, fun q => (Classical.choose_spec (w2 q)).1, w1, fun q => (Classical.choose_spec (w2 q)).2.1, fun q hf => (Classical.choose_spec (w2 q)).2.2 hf⟩
theorem bind_eta (X : Option (Int32 × VSt × Option (ComV × TreeV))) : Option.bind X (fun v => some (v.1, v.2.1, v.2.2)) = X := by
  cases X <;> rfl
section
variable {n : Nat} {σ : VSt} {ρ : RSt} {cm : Nat → Option ComV} {tm : Nat → Option TreeV}
theorem n60 (hn : n ≤ 60) : (Int32.ofNat n < 60 ↔ n < 60) ∧ (Int32.ofNat n = 60 ↔ n = 60) := ⟨c_lt 60 (by decide) (by omega), c_eq 60 (by decide) (by omega)⟩
/-- a change from a known tree on -/
theorem chg (h : INV n σ ρ cm tm) {b : Nat} (hb : b < 4) {j : Int32} {x : Int64} (hK : KOK j x) {t : Nat} {y : TreeV} (ht : t < 67) (hy : zTr ρ t y) {C : Nat × Nat → VSt → Option (Int32 × VSt × Option (ComV × TreeV))} (hC : ∀ (x' : TreeV) (g : RSt), n < 60 → zTr g 65 x' → RS ρ g → MK cm tm (fun q => C q (σ.1, σ.2.1, σ.2.2.1, σ.2.2.2.1, σ.2.2.2.2.1, σ.2.2.2.2.2.1, x', σ.2.2.2.2.2.2.2.1, σ.2.2.2.2.2.2.2.2.1, σ.2.2.2.2.2.2.2.2.2.1, σ.2.2.2.2.2.2.2.2.2.2.1, σ.2.2.2.2.2.2.2.2.2.2.2.1, σ.2.2.2.2.2.2.2.2.2.2.2.2)) (Option.bind (f_R_commit g (ρ.2.1.2.1.2 b) (-1)) (fun v152 => Option.bind (f_R_move v152.2 (Int32.ofNat b) v152.1) (fun v161 => some (v152.1, v161))))) :
    MK cm tm (fun q => Option.bind (f_H_fits y j x) (fun v52 => if v52 = 0 then some ((-3), σ, none) else if σ.1 < 60 then Option.bind (f_T_become σ.2.2.2.2.2.2.1 y) (fun v79 => Option.bind (f_H_apply v79 j x (σ.1 + 1)) (fun v94 => Option.bind (C q (σ.1, σ.2.1, σ.2.2.1, σ.2.2.2.1, σ.2.2.2.2.1, σ.2.2.2.2.2.1, v94, σ.2.2.2.2.2.2.2.1, σ.2.2.2.2.2.2.2.2.1, σ.2.2.2.2.2.2.2.2.2.1, σ.2.2.2.2.2.2.2.2.2.2.1, σ.2.2.2.2.2.2.2.2.2.2.2.1, σ.2.2.2.2.2.2.2.2.2.2.2.2)) (fun v102 => some (v102.1, v102.2.1, v102.2.2)))) else some ((-2), σ, none))) (J_R_change_102 ρ (Int32.ofNat b) j x (Int32.ofNat t)) := by
  obtain ⟨h1, h2, h3, h4, h5, h6, h7⟩ := id h
  obtain ⟨bb, f1, f2, f3⟩ := fit_eq ht hy hK
  have z4 : zin (Int32.ofNat b) 4 := (n_zin (by omega)).mpr hb
  unfold J_R_change_102
  cases bb with
  | false =>
    refine MK_congr (F' := fun _ => some ((-3), σ, none)) (fun q => ?_) ?_ (MK_no ⟨n, h⟩ (-3))
    · rw [f1, ob, zB_f, if_pos rfl]
    · rw [f2, ob, Bool.not_false, zB_t, if_neg (show ¬ ((1 : Int32) = 0) by decide)]
  | true =>
    by_cases hn : n < 60
    · obtain ⟨v135, k1, k2, k3⟩ := copy_eq (b := 65) ht (by decide) hy
      obtain ⟨x', v141, a1, a2, a3, a4⟩ := apply_eq k2 hK (f3 rfl)
      have hO := zOt_t k3 a4
      have hcm : v135.1.2.2.2 = Int32.ofNat n := k3.1.2.trans h3
      refine MK_congr (fun q => ?_) ?_ (hC x' v141 hn a3 (RS_Ot hO (by decide) (by decide)))
      · rw [f1, ob, zB_t, if_neg (show ¬ ((1 : Int32) = 0) by decide), h2, if_pos ((n60 h1).1.mpr hn), become_eq (zTr_w hy), ob, ← hcm, a1, ob]
        exact bind_eta _
      · have hh : v141.2.1.2.1.2 (Int32.ofNat b).toNatClampNeg = ρ.2.1.2.1.2 b := by rw [hO.1.1, n_cl (by omega)]
        rw [f2, ob, Bool.not_true, zB_f, if_pos rfl, h3, if_neg (fun g => absurd ((n60 h1).2.mp g) (by omega)), show f_R_copy ρ (Int32.ofNat t) 65 = some v135 from k1, ob, a2, ob, if_pos z4, hh]
    · refine MK_congr (F' := fun _ => some ((-2), σ, none)) (fun q => ?_) ?_ (MK_no ⟨n, h⟩ (-2))
      · rw [f1, ob, zB_t, if_neg (show ¬ ((1 : Int32) = 0) by decide), h2, if_neg (fun g => hn ((n60 h1).1.mp g))]
      · rw [f2, ob, Bool.not_true, zB_f, if_pos rfl, h3, if_pos ((n60 h1).2.mpr (by omega))]
end
theorem r_change : zs_change Inv := by
  intro k j x
  apply mk_of
  rintro σ ρ cm tm ⟨n, h⟩
  obtain ⟨h1, h2, h3, h4, h5, h6, h7⟩ := id h
  show MK cm tm (fun q => f_V_change q zT0 cm tm σ k j x) (f_R_change ρ k j x)
  have h10 : ¬ ((1 : Int32) = 0) := by decide
  rcases br_cases k with ⟨i, hi, rfl, e1, e2⟩ | ⟨e1, e2⟩
  · have z4 : zin (Int32.ofNat i) 4 := (n_zin (by omega)).mpr hi
    have ki := n_cl (show i < 2147483648 by omega)
    rcases inb ρ (Int32.ofNat i) j x with ⟨f1, hR⟩ | ⟨f1, hK, n0, n10, hR⟩
    · refine MK_congr (F' := fun _ => some ((-1), σ, none)) (fun q => ?_) ?_ (MK_no ⟨n, h⟩ (-1))
      · unfold f_V_change
        rw [e1, ob, if_neg h10, f1, ob, if_pos rfl]
      · rcases hR with hR | ⟨hR, hk⟩
        · rw [hR]
          unfold J_R_change_56_9
          rw [e2, ob, if_neg h10]
          by_cases g0 : j < 0
          · rw [if_pos g0]
          · rw [if_neg g0]
            by_cases g1 : 10 < j
            · rw [if_pos g1]
            · rw [if_neg g1, if_neg h10]
        · rw [hR]
          unfold J_R_change_56_9
          rw [e2, ob, if_neg h10]
          by_cases g0 : j < 0
          · rw [if_pos g0]
          · rw [if_neg g0]
            rcases hk with hk | hk
            · exact absurd hk g0
            · rw [if_pos hk]
    · rw [hR]
      have hJ : ∀ hd : ρ.2.1.2.1.2 i = -1 ∨ ∃ c, c < n ∧ ρ.2.1.2.1.2 i = Int32.ofNat c, J_R_change_56_9 ρ (Int32.ofNat i) j x 0 = if 0 ≤ ρ.2.1.2.1.2 i then J_R_change_102 ρ (Int32.ofNat i) j x (ρ.2.1.2.1.2 i) else J_R_change_102 ρ (Int32.ofNat i) j x 66 := by
        intro _
        have q : ρ.2.1.2.1.2 (Int32.ofNat i).toNatClampNeg = ρ.2.1.2.1.2 i := by rw [ki]
        unfold J_R_change_56_9
        rw [e2, ob, if_neg h10, if_neg n0, if_neg n10, if_pos rfl, if_pos z4, if_pos z4, q]
      rw [hJ (h5 i hi)]
      rcases h5 i hi with g | ⟨c, hc, g⟩
      · rw [g, if_neg (show ¬ ((0 : Int32) ≤ -1) by decide)]
        refine MK_congr (fun q => ?_) rfl (chg h hi hK (t := 66) (by decide) h6 (C := fun q s => f_V_commitDraft_nn q zT0 cm tm s (Int32.ofNat i)) (fun x' g' hn hz hS => ?_))
        · unfold f_V_change
          rw [e1, ob, if_neg h10, f1, ob, if_neg h10, if_pos z4, h4.1, ki, g, commitAt_n h1 h2 (m1_none h1), ob, zo_none]
        · rw [g]
          exact cmt_nn (σ := (σ.1, σ.2.1, σ.2.2.1, σ.2.2.2.1, σ.2.2.2.2.1, σ.2.2.2.2.2.1, x', σ.2.2.2.2.2.2.2.1, σ.2.2.2.2.2.2.2.2.1, σ.2.2.2.2.2.2.2.2.2.1, σ.2.2.2.2.2.2.2.2.2.2.1, σ.2.2.2.2.2.2.2.2.2.2.2.1, σ.2.2.2.2.2.2.2.2.2.2.2.2)) (INV_RS hS h) hn hz hi
      · rw [g, if_pos (n_p (by omega))]
        obtain ⟨y, co, t, c1, c2, c3, c4, c5⟩ := h7 c hc
        refine MK_congr (fun q => ?_) rfl (chg h hi hK (t := c) (by omega) c4 (C := fun q s => f_V_commitDraft_rn q zT0 cm tm s (Int32.ofNat i) y) (fun x' g' hn hz hS => ?_))
        · unfold f_V_change
          rw [e1, ob, if_neg h10, f1, ob, if_neg h10, if_pos z4, h4.1, ki, g, commitAt_y h1 h2 hc c1, ob, zo_some, c2, ob, c3, ob]
        · rw [g]
          exact cmt_rn (σ := (σ.1, σ.2.1, σ.2.2.1, σ.2.2.2.1, σ.2.2.2.2.1, σ.2.2.2.2.2.1, x', σ.2.2.2.2.2.2.2.1, σ.2.2.2.2.2.2.2.2.1, σ.2.2.2.2.2.2.2.2.2.1, σ.2.2.2.2.2.2.2.2.2.2.1, σ.2.2.2.2.2.2.2.2.2.2.2.1, σ.2.2.2.2.2.2.2.2.2.2.2.2)) (INV_RS hS h) hn hz hi hc c1
  · refine MK_congr (F' := fun _ => some ((-1), σ, none)) (fun q => ?_) ?_ (MK_no ⟨n, h⟩ (-1))
    · unfold f_V_change
      rw [e1, ob, if_pos rfl]
    · have hJ : ∀ m, J_R_change_56_9 ρ k j x m = some ((-1), ρ) := by
        intro m
        unfold J_R_change_56_9
        rw [e2, ob, if_pos rfl]
      rcases inb ρ k j x with ⟨f1, hR | ⟨hR, hk⟩⟩ | ⟨f1, hK, n0, n10, hR⟩ <;> rw [hR] <;> exact hJ _

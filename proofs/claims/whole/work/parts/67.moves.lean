-- WHAT MOVES HEADS
theorem mv {σ : VSt} {ρ : RSt} (hw : HW σ ρ) {b : Nat} (hb : b < 4) (v : Int32) : ∃ σ' ρ', (∀ cm0 tm0, f_V_moveHead zT0 cm0 tm0 σ (Int32.ofNat b) v = some σ') ∧ f_R_move ρ (Int32.ofNat b) v = some ρ' ∧ HW σ' ρ' ∧ σ'.1 = σ.1 ∧ σ'.2.2.1 = σ.2.2.1 ∧ ρ'.2.1.2.1.2 = upd ρ.2.1.2.1.2 b v ∧ ρ' = (ρ.1, ((ρ.2.1.1, ((ρ.2.1.2.1.1, ρ'.2.1.2.1.2), ρ.2.1.2.2)), (((ρ'.2.2.1.1.1, ρ'.2.2.1.1.2), ρ.2.2.1.2), ρ.2.2.2))) := by
  obtain ⟨h1, h2, h3, ⟨e, he, h4⟩, h5⟩ := hw
  have z4 : zin (Int32.ofNat b) 4 := (n_zin (by omega)).mpr hb
  have kb := n_cl (show b < 2147483648 by omega)
  unfold f_V_moveHead f_R_move
  simp only [if_pos z4, kb]
  rw [h1, h2, h3, h4, h5]
  have ze : ∀ h : e < 100, zin (Int32.ofNat e) 100 := fun h => (n_zin (by omega)).mpr h
  have ke := n_cl (show e < 2147483648 by omega)
  by_cases g1 : ρ.2.1.2.1.2 b = v
  · have es : upd ρ.2.1.2.1.2 b v = ρ.2.1.2.1.2 := by rw [← g1]; exact upd_self _ _
    simp only [if_pos g1, ite_self]
    exact ⟨_, _, fun _ _ => rfl, rfl, ⟨h1.trans es.symm, h2, h3.trans h4, ⟨e, he, rfl⟩, h5⟩, rfl, rfl, rfl, rfl⟩
  · by_cases g0 : ρ.2.1.2.2 b = 0
    · simp only [if_neg g1, if_pos g0]
      exact ⟨_, _, fun _ _ => rfl, rfl, ⟨rfl, rfl, rfl, ⟨e, he, rfl⟩, rfl⟩, rfl, rfl, rfl, rfl⟩
    · by_cases g2 : e < 100
      · have g2' : ¬ ((100 : Int32) ≤ Int32.ofNat e) := fun g => absurd ((le_c 100 (by decide) (by omega)).mp g) (by omega)
        simp only [if_neg g1, if_neg g0, if_neg g2', if_pos (ze g2)]
        exact ⟨_, _, fun _ _ => rfl, rfl, ⟨rfl, rfl, rfl, ⟨e + 1, by omega, n_s e⟩, rfl⟩, rfl, rfl, rfl, rfl⟩
      · have g2' : (100 : Int32) ≤ Int32.ofNat e := (le_c 100 (by decide) (by omega)).mpr (by omega)
        simp only [if_neg g1, if_neg g0, if_pos g2']
        exact ⟨_, _, fun _ _ => rfl, rfl, ⟨rfl, rfl, rfl, ⟨e, he, rfl⟩, rfl⟩, rfl, rfl, rfl, rfl⟩
theorem mv_inv {n : Nat} {σ σ' : VSt} {ρ ρ' : RSt} {cm : Nat → Option ComV} {tm : Nat → Option TreeV} (h : INV n σ ρ cm tm) {b : Nat} (hb : b < 4) {v : Int32} (hv : v = -1 ∨ ∃ c, c < n ∧ v = Int32.ofNat c) (a1 : HW σ' ρ') (a2 : σ'.1 = σ.1) (a3 : σ'.2.2.1 = σ.2.2.1) (a4 : ρ'.2.1.2.1.2 = upd ρ.2.1.2.1.2 b v) (a5 : ρ' = (ρ.1, ((ρ.2.1.1, ((ρ.2.1.2.1.1, ρ'.2.1.2.1.2), ρ.2.1.2.2)), (((ρ'.2.2.1.1.1, ρ'.2.2.1.1.2), ρ.2.2.1.2), ρ.2.2.2)))) : INV n σ' ρ' cm tm := by
  obtain ⟨h1, h2, h3, h4, h5, h6, h7⟩ := h
  have hC : CMT n σ' ρ' cm tm := by
    apply CMT_made a3
    rw [a5]
    exact h7
  refine ⟨h1, a2.trans h2, by rw [a5]; exact h3, a1, fun q hq => ?_, by rw [a5]; exact h6, hC⟩
  rw [a4]
  by_cases e : q = b
  · subst e; rw [upd_at]; exact hv
  · rw [upd_ne _ _ e]; exact h5 q hq
theorem r_fork : zs_fork Inv := by
  rintro k j σ ρ cm tm ⟨n, h⟩
  obtain ⟨h1, h2, h3, h4, h5, h6, h7⟩ := id h
  show ∃ v w, f_V_fork zT0 cm tm σ k j = some v ∧ f_R_fork ρ k j = some w ∧ v.1 = w.1 ∧ Inv v.2 w.2 cm tm
  unfold f_V_fork f_R_fork
  rcases br_cases k with ⟨i, hi, rfl, e1, e2⟩ | ⟨e1, e2⟩
  · rw [e1, e2, ob, ob, if_neg (show ¬ ((1 : Int32) = 0) by decide), if_neg (show ¬ ((1 : Int32) = 0) by decide)]
    rcases br_cases j with ⟨q, hq, rfl, f1, f2⟩ | ⟨f1, f2⟩
    · have z4 : zin (Int32.ofNat i) 4 := (n_zin (by omega)).mpr hi
      rw [f1, f2, ob, ob, if_neg (show ¬ ((1 : Int32) = 0) by decide), if_neg (show ¬ ((1 : Int32) = 0) by decide), if_pos z4, if_pos z4, n_cl (show i < 2147483648 by omega), h4.1]
      obtain ⟨σ', ρ', a1, a2, a3, a4, a5, a6, a7⟩ := mv h4 hq (ρ.2.1.2.1.2 i)
      rw [a1, a2, ob, ob]
      exact ⟨_, _, rfl, rfl, rfl, n, mv_inv h hq (h5 i hi) a3 a4 a5 a6 a7⟩
    · rw [f1, f2, ob, ob, if_pos rfl, if_pos rfl]; exact ⟨_, _, rfl, rfl, rfl, n, h⟩
  · rw [e1, e2, ob, ob, if_pos rfl, if_pos rfl]; exact ⟨_, _, rfl, rfl, rfl, n, h⟩
theorem r_swap : zs_swap Inv := by
  rintro k j m σ ρ cm tm ⟨n, h⟩
  obtain ⟨h1, h2, h3, h4, h5, h6, h7⟩ := id h
  show ∃ v w, f_V_swap zT0 cm tm σ k j m = some v ∧ f_R_swap ρ k j m = some w ∧ v.1 = w.1 ∧ Inv v.2 w.2 cm tm
  unfold f_V_swap f_R_swap
  rcases br_cases k with ⟨i, hi, rfl, e1, e2⟩ | ⟨e1, e2⟩
  · have z4 : zin (Int32.ofNat i) 4 := (n_zin (by omega)).mpr hi
    rw [e1, e2, ob, ob, if_neg (show ¬ ((1 : Int32) = 0) by decide), if_neg (show ¬ ((1 : Int32) = 0) by decide), h4.1]
    have fin : (m = -1 ∨ ∃ c, c < n ∧ m = Int32.ofNat c) → ∃ v w, (if zin (Int32.ofNat i) 4 then (if ρ.2.1.2.1.2 (Int32.ofNat i).toNatClampNeg = j then Option.bind (f_V_moveHead zT0 cm tm σ (Int32.ofNat i) m) (fun v35 => some ((1 : Int32), v35)) else some (0, σ)) else none) = some v ∧ (if zin (Int32.ofNat i) 4 then (if ρ.2.1.2.1.2 (Int32.ofNat i).toNatClampNeg = j then Option.bind (f_R_move ρ (Int32.ofNat i) m) (fun v35 => some ((1 : Int32), v35)) else some (0, ρ)) else none) = some w ∧ v.1 = w.1 ∧ Inv v.2 w.2 cm tm := by
      intro hm
      rw [if_pos z4, if_pos z4]
      by_cases g : ρ.2.1.2.1.2 (Int32.ofNat i).toNatClampNeg = j
      · rw [if_pos g, if_pos g]
        obtain ⟨σ', ρ', a1, a2, a3, a4, a5, a6, a7⟩ := mv h4 hi m
        rw [a1, a2, ob, ob]
        exact ⟨_, _, rfl, rfl, rfl, n, mv_inv h hi hm a3 a4 a5 a6 a7⟩
      · rw [if_neg g, if_neg g]; exact ⟨_, _, rfl, rfl, rfl, n, h⟩
    by_cases hm : m = -1
    · rw [if_pos hm, if_pos hm]
      exact fin (Or.inl hm)
    · rw [if_neg hm, if_neg hm]
      rcases com_cases h1 m with ⟨c, hc, rfl⟩ | h'
      · rw [isCommit_y h1 h2 hc, risCommit_y h1 h3 hc, ob, ob, if_neg (show ¬ ((1 : Int32) = 0) by decide), if_neg (show ¬ ((1 : Int32) = 0) by decide)]
        exact fin (Or.inr ⟨c, hc, rfl⟩)
      · rw [isCommit_n h1 h2 h', risCommit_n h1 h3 h', ob, ob, if_pos rfl, if_pos rfl]; exact ⟨_, _, rfl, rfl, rfl, n, h⟩
  · rw [e1, e2, ob, ob, if_pos rfl, if_pos rfl]; exact ⟨_, _, rfl, rfl, rfl, n, h⟩
theorem r_watch : zs_watch Inv := by
  rintro k j hz σ ρ cm tm ⟨n, h⟩
  obtain ⟨h1, h2, h3, ⟨h41, h42, h43, h44, h45⟩, h5, h6, h7⟩ := id h
  show ∃ v w, f_V_watch zT0 cm tm σ k j = some v ∧ f_R_watch ρ k j = some w ∧ v.1 = w.1 ∧ Inv v.2 w.2 cm tm
  unfold f_V_watch f_R_watch
  rcases br_cases k with ⟨i, hi, rfl, e1, e2⟩ | ⟨e1, e2⟩
  · have z4 : zin (Int32.ofNat i) 4 := (n_zin (by omega)).mpr hi
    rw [e1, e2, ob, ob, if_neg (show ¬ ((1 : Int32) = 0) by decide), if_neg (show ¬ ((1 : Int32) = 0) by decide), if_pos z4, if_pos z4, h42]
    exact ⟨_, _, rfl, rfl, rfl, n, h1, h2, h3, ⟨h41, rfl, h43, h44, h45⟩, h5, h6, h7⟩
  · rw [e1, e2, ob, ob, if_pos rfl, if_pos rfl]; exact ⟨_, _, rfl, rfl, rfl, n, h⟩

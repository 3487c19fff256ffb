-- MERGING TREES: the whole
theorem late_eq (x y : TreeV) : ∃ (lt st : Int32), (if y.2.2.1 < x.2.2.1 then ((x.2.1, x.2.2.1) : Int32 × Int32) else if x.2.2.1 = y.2.2.1 then (if x.2.1 < y.2.1 then (y.2.1, y.2.2.1) else (x.2.1, x.2.2.1)) else (y.2.1, y.2.2.1)) = (lt, st) ∧ ∀ v13 : Int64, f_M_mergeLatest (v13, x.2.1, x.2.2.1, x.2.2.2.1, x.2.2.2.2.1, x.2.2.2.2.2.1, x.2.2.2.2.2.2.1, x.2.2.2.2.2.2.2.1, x.2.2.2.2.2.2.2.2.1, x.2.2.2.2.2.2.2.2.2) y = some (v13, lt, st, x.2.2.2.1, x.2.2.2.2.1, x.2.2.2.2.2.1, x.2.2.2.2.2.2.1, x.2.2.2.2.2.2.2.1, x.2.2.2.2.2.2.2.2.1, x.2.2.2.2.2.2.2.2.2) := by
  have t1 : ∀ a b : Int32, a < b ↔ a.toInt < b.toInt := fun a b => Int32.lt_iff_toInt_lt
  have t2 : ∀ a b : Int32, a ≤ b ↔ a.toInt ≤ b.toInt := fun a b => Int32.le_iff_toInt_le
  have t3 : ∀ a b : Int32, a = b ↔ a.toInt = b.toInt := fun a b => Int32.toInt_inj.symm
  by_cases h1 : y.2.2.1 < x.2.2.1
  · refine ⟨_, _, if_pos h1, fun v13 => ?_⟩
    have g1 : ¬ (x.2.2.1 < y.2.2.1) := by rw [t1] at *; omega
    have g2 : ¬ (y.2.2.1 = x.2.2.1) := by rw [t1, t3] at *; omega
    unfold f_M_mergeLatest
    rw [if_neg g1, if_neg g2]
  · by_cases h2 : x.2.2.1 = y.2.2.1
    · have g1 : ¬ (x.2.2.1 < y.2.2.1) := by rw [t3] at h2; rw [t1]; omega
      by_cases h3 : x.2.1 < y.2.1
      · refine ⟨_, _, by rw [if_neg h1, if_pos h2, if_pos h3], fun v13 => ?_⟩
        have g3 : ¬ (y.2.1 ≤ x.2.1) := by rw [t1] at h3; rw [t2]; omega
        unfold f_M_mergeLatest
        rw [if_neg g1, if_pos h2.symm, if_neg g3]
      · refine ⟨_, _, by rw [if_neg h1, if_pos h2, if_neg h3], fun v13 => ?_⟩
        have g3 : (y.2.1 ≤ x.2.1) := by rw [t1] at h3; rw [t2]; omega
        unfold f_M_mergeLatest
        rw [if_neg g1, if_pos h2.symm, if_pos g3]
    · refine ⟨_, _, by rw [if_neg h1, if_neg h2], fun v13 => ?_⟩
      have g1 : x.2.2.1 < y.2.2.1 := by rw [t3] at h2; rw [t1] at *; omega
      unfold f_M_mergeLatest
      rw [if_pos g1]
theorem mt_late {ρ : RSt} {tb tx ty : Nat} {x y : TreeV} (hb : tb < 67) (hx : tx < 67) (hy : ty < 67) (cx : zTc ρ tx x) (cy : zTc ρ ty y) {lt st : Int32}
    (h : (if y.2.2.1 < x.2.2.1 then ((x.2.1, x.2.2.1) : Int32 × Int32) else if x.2.2.1 = y.2.2.1 then (if x.2.1 < y.2.1 then (y.2.1, y.2.2.1) else (x.2.1, x.2.2.1)) else (y.2.1, y.2.2.1)) = (lt, st)) :
    f_R_mergeTrees ρ (Int32.ofNat tb) (Int32.ofNat tx) (Int32.ofNat ty) = J_R_mergeTrees_132 ρ (Int32.ofNat tb) (Int32.ofNat tx) (Int32.ofNat ty) lt st := by
  have wb : zin (Int32.ofNat tb) 67 := (n_zin (by omega)).mpr hb
  have wx : zin (Int32.ofNat tx) 67 := (n_zin (by omega)).mpr hx
  have wy : zin (Int32.ofNat ty) 67 := (n_zin (by omega)).mpr hy
  have kb := n_cl (show tb < 2147483648 by omega)
  have kx := n_cl (show tx < 2147483648 by omega)
  have ky := n_cl (show ty < 2147483648 by omega)
  have h10 : ¬ ((1 : Int32) = 0) := by decide
  unfold f_R_mergeTrees J_R_mergeTrees_50_3 J_R_mergeTrees_105
  simp only [if_pos wb, if_pos wx, if_pos wy, kx, ky, cx.2.1, cy.2.1, cx.2.2.1, cy.2.2.1, if_pos rfl, if_neg h10]
  split at h
  · rename_i h1; rw [if_pos h1]; cases h; rfl
  · rename_i h1; rw [if_neg h1]
    split at h
    · rename_i h2; rw [if_pos h2]
      split at h
      · rename_i h3; rw [if_pos h3]; cases h; rfl
      · rename_i h3; rw [if_neg h3]; cases h; rfl
    · rename_i h2; rw [if_neg h2]; cases h; rfl
theorem mt_eq {ρ : RSt} {tb tx ty : Nat} {b x y : TreeV} (hb : tb < 67) (hx : tx < 67) (hy : ty < 67) (nb : tb ≠ 65) (nx : tx ≠ 65) (ny : ty ≠ 65) (rb : zTr ρ tb b) (rx : zTr ρ tx x) (ry : zTr ρ ty y) :
    ∃ (code : Int32) (t' : TreeV) (ρ' : RSt), (∀ bf, ∃ bf', f_M_mergeInto x bf b y = some (code, t', bf')) ∧ f_R_mergeTrees ρ (Int32.ofNat tb) (Int32.ofNat tx) (Int32.ofNat ty) = some (code, ρ') ∧ zOt ρ ρ' 65 ∧ (code = 0 → zTr ρ' 65 t') := by
  obtain ⟨cb, lb, wlb, qb⟩ := rb
  obtain ⟨cx, lx, wlx, qx⟩ := rx
  obtain ⟨cy, ly, wly, qy⟩ := ry
  have wb : zin (Int32.ofNat tb) 67 := (n_zin (by omega)).mpr hb
  have wx : zin (Int32.ofNat tx) 67 := (n_zin (by omega)).mpr hx
  have wy : zin (Int32.ofNat ty) 67 := (n_zin (by omega)).mpr hy
  have kb := n_cl (show tb < 2147483648 by omega)
  have kx := n_cl (show tx < 2147483648 by omega)
  have ky := n_cl (show ty < 2147483648 by omega)
  have h10 : ¬ ((1 : Int32) = 0) := by decide
  obtain ⟨lt, st, hlt, hml⟩ := late_eq x y
  rw [mt_late hb hx hy cx cy hlt]
  unfold f_M_mergeInto J_R_mergeTrees_132
  simp only [if_pos wb, if_pos wx, if_pos wy, kb, kx, ky, e65, torn_eq, chosen_eq, cb.1, cx.1, cy.1, cb.2.2.2.1, cx.2.2.2.1, cy.2.2.2.1, cb.2.2.2.2.1, cx.2.2.2.2.1, cy.2.2.2.2.1, hml, f_M_mergedLong, ob]
  obtain ⟨c1, ec1⟩ := clash_z b.2.2.2.1 x.2.2.2.1 y.2.2.2.1
  rw [ec1]
  simp only [ob]
  cases c1 with
  | true =>
    simp only [zB_t, if_neg h10]
    refine ⟨_, _, _, fun bf => ⟨bf, rfl⟩, rfl, ?_, fun h => absurd h (by decide)⟩
    exact zOt_mk ⟨rfl, rfl⟩ (fun u hu => ⟨updL_ne _ _ hu, upd_ne _ _ hu, upd_ne _ _ hu, rfl, rfl, rfl, rfl, rfl, rfl, rfl⟩) (fun _ _ => rfl)
  | false =>
    simp only [zB_f, if_true]
    obtain ⟨pl, epl⟩ := mint_z b.2.2.2.1 x.2.2.2.1 y.2.2.2.1
    obtain ⟨ms, ems, -⟩ := mset_bit b.2.2.2.2.1 x.2.2.2.2.1 y.2.2.2.2.1
    rw [epl, ems]
    simp only [ob]
    rw [set_eq ems]
    have hO1 : zOt ρ (((((vp_updL ρ.1.1.1.1.1 65 ((x.1 + y.1) - b.1), upd ρ.1.1.1.1.2 65 lt), upd ρ.1.1.1.2 65 st), ((upd ρ.1.1.2.1.1 65 pl, vp_updL ρ.1.1.2.1.2 65 (ms.toInt64 &&& 4294967295)), ρ.1.1.2.2)), ρ.1.2), ρ.2) 65 :=
      zOt_mk ⟨rfl, rfl⟩ (fun u hu => ⟨updL_ne _ _ hu, upd_ne _ _ hu, upd_ne _ _ hu, upd_ne _ _ hu, updL_ne _ _ hu, rfl, rfl, rfl, rfl, rfl⟩) (fun _ _ => rfl)
    obtain ⟨res, ρ2, a1, a2, a3, a4⟩ := mq_all (ρ := (((((vp_updL ρ.1.1.1.1.1 65 ((x.1 + y.1) - b.1), upd ρ.1.1.1.1.2 65 lt), upd ρ.1.1.1.2 65 st), ((upd ρ.1.1.2.1.1 65 pl, vp_updL ρ.1.1.2.1.2 65 (ms.toInt64 &&& 4294967295)), ρ.1.1.2.2)), ρ.1.2), ρ.2)) (tb := tb) (tx := tx) (ty := ty) (lb := lb) (lx := lx) (ly := ly) ⟨⟨hb, hx, hy⟩, ⟨wlb.1, wlx.1, wly.1⟩, qb, qx, qy⟩ nb nx ny
    rw [a2]
    simp only [ob, wlb.2.1, wlx.2.1, wly.2.1]
    obtain ⟨a31, a32, a33⟩ := a3
    cases res with
    | none =>
      refine ⟨-14, (x.1 + y.1 - b.1, lt, st, pl, ms, -1, x.2.2.2.2.2.2.1, x.2.2.2.2.2.2.2.1, x.2.2.2.2.2.2.2.2.1, x.2.2.2.2.2.2.2.2.2), ρ2, fun bf => ?_, rfl, ?_, fun h => absurd h (by decide)⟩
      · obtain ⟨bf', e⟩ := a1 bf
        rw [e]
        exact ⟨bf', rfl⟩
      · refine zOt_t hO1 ?_
        rw [a31]
        exact zOt_mk ⟨rfl, rfl⟩ (fun u hu => ⟨rfl, rfl, rfl, rfl, rfl, rfl, rfl, rfl, rfl, a33 u hu⟩) a32
    | some l =>
      obtain ⟨hql, hqz⟩ := a4 l rfl
      have hO2 : zOt ρ ρ2 65 := by
        refine zOt_t hO1 ?_
        rw [a31]
        exact zOt_mk ⟨rfl, rfl⟩ (fun u hu => ⟨rfl, rfl, rfl, rfl, rfl, rfl, rfl, rfl, rfl, a33 u hu⟩) a32
      have hth : ρ2.1.2.1.1.2 = ρ.1.2.1.1.2 := by rw [a31]
      have hop : ρ2.1.2.1.2 = ρ.1.2.1.2 := by rw [a31]
      have hpl : ρ2.1.2.2.1.1 = ρ.1.2.2.1.1 := by rw [a31]
      have hpi : ρ2.1.2.2.1.2 = ρ.1.2.2.1.2 := by rw [a31]
      have hc1 : ρ2.1.1.1.1.1 65 = (x.1 + y.1) - b.1 := (congrFun (show ρ2.1.1.1.1.1 = vp_updL ρ.1.1.1.1.1 65 ((x.1 + y.1) - b.1) by rw [a31]) 65).trans (updL_at _ _ _)
      have hc2 : ρ2.1.1.1.1.2 65 = lt := (congrFun (show ρ2.1.1.1.1.2 = upd ρ.1.1.1.1.2 65 lt by rw [a31]) 65).trans (upd_at _ _ _)
      have hc3 : ρ2.1.1.1.2 65 = st := (congrFun (show ρ2.1.1.1.2 = upd ρ.1.1.1.2 65 st by rw [a31]) 65).trans (upd_at _ _ _)
      have hc4 : ρ2.1.1.2.1.1 65 = pl := (congrFun (show ρ2.1.1.2.1.1 = upd ρ.1.1.2.1.1 65 pl by rw [a31]) 65).trans (upd_at _ _ _)
      have hc5 : ρ2.1.1.2.1.2 65 = ms.toInt64 &&& 4294967295 := (congrFun (show ρ2.1.1.2.1.2 = vp_updL ρ.1.1.2.1.2 65 (ms.toInt64 &&& 4294967295) by rw [a31]) 65).trans (updL_at _ _ _)
      have hne : ¬ (lg_cmp (Int64.ofNat (pk l)) (-1) = 0) := fun h => pk_ne1 hql ((lg_eq _ _).mp h)
      have hcl : ∀ bf, ∃ bf', f_M_mergedQueue bf (Int64.ofNat (pk lb)) (Int64.ofNat (pk lx)) (Int64.ofNat (pk ly)) = some (Int64.ofNat (pk l), bf') := a1
      simp only [Option.isSome_some, zB_t, if_neg h10]
      rcases opt_eq (ρ := ρ2) (b := b) (x := (x.1 + y.1 - b.1, lt, st, pl, ms, Int64.ofNat (pk l), x.2.2.2.2.2.2.1, x.2.2.2.2.2.2.2.1, x.2.2.2.2.2.2.2.2.1, x.2.2.2.2.2.2.2.2.2)) (y := y) hb hx hy nb nx ny (by rw [hth]; exact cb.2.2.2.2.2.1) (by rw [hth]; exact cx.2.2.2.2.2.1) (by rw [hth]; exact cy.2.2.2.2.2.1) (by rw [hop]; exact cb.2.2.2.2.2.2.1) (by rw [hop]; exact cx.2.2.2.2.2.2.1) (by rw [hop]; exact cy.2.2.2.2.2.2.1) wlb.2.2.1 wlx.2.2.1 wly.2.2.1 wlb.2.2.2 with ⟨b1, b2⟩ | ⟨b1, hs, op, b2, b3, b4, b5⟩
      · rw [b1]
        simp only [ob, if_neg h10]
        refine ⟨-15, (x.1 + y.1 - b.1, lt, st, pl, ms, Int64.ofNat (pk l), x.2.2.2.2.2.2.1, x.2.2.2.2.2.2.2.1, x.2.2.2.2.2.2.2.2.1, x.2.2.2.2.2.2.2.2.2), ρ2, fun bf => ?_, rfl, hO2, fun h => absurd h (by decide)⟩
        obtain ⟨bf', e⟩ := hcl bf
        rw [e]
        simp only [ob, if_neg hne]
        rw [b2]
        exact ⟨bf', rfl⟩
      · rw [b1]
        simp only [ob, if_true]
        rw [b2]
        simp only [ob]
        have hO3 : zOt ρ ((ρ2.1.1, (((ρ2.1.2.1.1.1, upd ρ2.1.2.1.1.2 65 hs), vp_updL ρ2.1.2.1.2 65 op), ρ2.1.2.2)), ρ2.2) 65 :=
          zOt_t hO2 (zOt_mk ⟨rfl, rfl⟩ (fun u hu => ⟨rfl, rfl, rfl, rfl, rfl, upd_ne _ _ hu, updL_ne _ _ hu, rfl, rfl, rfl⟩) (fun _ _ => rfl))
        simp only [hpl, hpi, cb.2.2.2.2.2.2.2.2, cx.2.2.2.2.2.2.2.2, cy.2.2.2.2.2.2.2.2, cb.2.2.2.2.2.2.2.1, cx.2.2.2.2.2.2.2.1, cy.2.2.2.2.2.2.2.1]
        obtain ⟨c2, ec2⟩ := clash_z b.2.2.2.2.2.2.2.2.2 x.2.2.2.2.2.2.2.2.2 y.2.2.2.2.2.2.2.2.2
        rw [ec2]
        simp only [ob]
        cases c2 with
        | true =>
          simp only [zB_t, if_neg h10]
          refine ⟨-16, (x.1 + y.1 - b.1, lt, st, pl, ms, Int64.ofNat (pk l), hs, op, x.2.2.2.2.2.2.2.2.1, x.2.2.2.2.2.2.2.2.2), _, fun bf => ?_, rfl, hO3, fun h => absurd h (by decide)⟩
          obtain ⟨bf', e⟩ := hcl bf
          rw [e]
          simp only [ob, if_neg hne]
          rw [b3]
          simp only [ob, if_neg h10]
          rw [ec2]
          exact ⟨bf', rfl⟩
        | false =>
          simp only [zB_f, if_true]
          obtain ⟨pi, epi⟩ := mint_z b.2.2.2.2.2.2.2.2.2 x.2.2.2.2.2.2.2.2.2 y.2.2.2.2.2.2.2.2.2
          rw [epi]
          simp only [ob]
          refine ⟨0, (x.1 + y.1 - b.1, lt, st, pl, ms, Int64.ofNat (pk l), hs, op, x.2.2.2.2.2.2.2.2.1 + y.2.2.2.2.2.2.2.2.1 - b.2.2.2.2.2.2.2.2.1, pi), _, fun bf => ?_, rfl, ?_, fun _ => ?_⟩
          · obtain ⟨bf', e⟩ := hcl bf
            rw [e]
            simp only [ob, if_neg hne]
            rw [b3]
            simp only [ob, if_neg h10]
            rw [ec2]
            simp only [ob, zB_f, if_true]
            rw [epi]
            exact ⟨bf', rfl⟩
          · refine zOt_t hO3 ?_
            exact zOt_mk ⟨rfl, rfl⟩ (fun u hu => ⟨rfl, rfl, rfl, rfl, rfl, rfl, rfl, (updL_ne _ _ hu).trans (by rw [hpl]), (upd_ne _ _ hu).trans (by rw [hpi]), rfl⟩) (fun _ _ => rfl)
          · refine ⟨⟨hc1, hc2, hc3, hc4, hc5, (show upd ρ2.1.2.1.1.2 65 hs 65 = hs from upd_at _ _ _), (show vp_updL ρ2.1.2.1.2 65 op 65 = op from updL_at _ _ _), (show vp_updL ρ.1.2.2.1.1 65 _ 65 = _ from updL_at _ _ _), (show upd ρ.1.2.2.1.2 65 pi 65 = pi from upd_at _ _ _)⟩, l, ⟨hql, rfl, b4, b5⟩, hqz⟩

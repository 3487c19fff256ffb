-- MERGE
section
variable {n : Nat} {σ : VSt} {ρ : RSt} {cm : Nat → Option ComV} {tm : Nat → Option TreeV}
def TT (σ : VSt) (cm : Nat → Option ComV) (tm : Nat → Option TreeV) (i : Nat) : TreeV := (Option.bind (Option.bind (σ.2.2.1 i) cm) (fun c => tm c.2.2.2.2.1)).getD zT0
theorem TT_eq {i y : Nat} {c : ComV} {t : TreeV} (h1 : σ.2.2.1 i = some y) (h2 : cm y = some c) (h3 : tm c.2.2.2.2.1 = some t) : TT σ cm tm i = t := by
  unfold TT; rw [h1, ob, h2, ob, h3]; rfl
theorem INV_WS (h : INV n σ ρ cm tm) : WS n σ ρ cm tm (TT σ cm tm) ∧ GS n (TT σ cm tm) ρ.2.1.1.2 ρ := by
  obtain ⟨h1, h2, h3, h4, h5, h6, h7⟩ := h
  refine ⟨⟨h1, h2, h7, fun i hi => ?_⟩, ⟨h1, h3, rfl, fun i hi => ?_, h6⟩⟩
  · obtain ⟨y, c, t, c1, c2, c3, c4, c5, c6⟩ := h7 i hi
    refine ⟨y, c, c1, c2, ?_, c5, ?_⟩
    · rw [TT_eq c1 c2 c3]; exact c3
    · rw [TT_eq c1 c2 c3]; exact zTr_w c4
  · obtain ⟨y, c, t, c1, c2, c3, c4, c5, c6⟩ := h7 i hi
    rw [TT_eq c1 c2 c3]; exact c4
theorem isAbove_eq {c d : Nat} (hc : c < 60) (hd : d < 60) : f_R_isAbove ρ (Int32.ofNat c) (Int32.ofNat d) = some (zB (bl (ρ.2.1.1.2 d) c)) := by
  unfold f_R_isAbove
  rw [if_pos ((n_zin (by omega)).mpr hd), n_cl (by omega)]
  by_cases g : bl (ρ.2.1.1.2 d) c = true
  · rw [if_pos ((t_r1 _ (by omega)).mpr g), g]; rfl
  · rw [if_neg (fun e => g ((t_r1 _ (by omega)).mp e))]
    rw [Bool.not_eq_true] at g
    rw [g]; rfl
theorem desc_eq {o1 o2 : ComV} {c : Nat} (hc : c < 60) (h : o2.1 = Int32.ofNat c) : f_C_descendsFrom o1 o2 = some (zB (bl o1.2.2.2.2.2.1 c)) := by
  unfold f_C_descendsFrom
  rw [h, isIn_eq _ (by omega), ob, if_pos (zB_z _)]
/-- the merging of two heads of which neither is above the other -/
theorem mrg (h : INV n σ ρ cm tm) (hn : n < 60) {b : Nat} (hb : b < 4) {c d yc yd : Nat} (hc : c < n) (hd : d < n) (hcd : c ≠ d) (ec : σ.2.2.1 c = some yc) (ed : σ.2.2.1 d = some yd) (a0 a1 : Int32) (e0 : ρ.2.1.2.1.2 a0.toNatClampNeg = Int32.ofNat d) (e1 : ρ.2.1.2.1.2 a1.toNatClampNeg = Int32.ofNat c) (eb : a1 = Int32.ofNat b) :
    MK cm tm (fun q => Option.bind (f_V_draftMerging zT0 cm tm σ yc yd) (fun v104 => if v104.1 = 0 then Option.bind (f_V_commitDraft_rr q zT0 cm tm v104.2 a1 yc yd) (fun v122 => some (v122.1, v122.2.1, v122.2.2)) else some (v104.1, v104.2, none))) (Option.bind (f_R_base ρ (Int32.ofNat c) (Int32.ofNat d)) (fun v92 => if v92.1 = 0 then Option.bind (f_R_mergeTrees v92.2 60 (Int32.ofNat c) (Int32.ofNat d)) (fun v108 => J_R_merge_113 ρ a0 a1 v108.1 v108.2) else J_R_merge_113 ρ a0 a1 v92.1 v92.2)) := by
  obtain ⟨h1, h2, h3, h4, h5, h6, h7⟩ := id h
  obtain ⟨hW, hG⟩ := INV_WS h
  obtain ⟨code, σ1, a1', a2, a3, a4⟩ := lb0 hW hc hd ec ed
  obtain ⟨code', g, b1, b2, b3, b4⟩ := base_eq hG hc hd
  have hcode : code' = code := b2.trans a2.symm
  subst hcode
  rw [b1, ob]
  dsimp only
  by_cases hz : code' = 0
  · obtain ⟨a5, a6⟩ := a4 hz
    have hg := GS_RS b3 hG
    obtain ⟨code2, t', g2, k1, k2, k3, k4⟩ := mt_eq (ρ := g) (tb := 60) (tx := c) (ty := d) (by omega) (by omega) (by omega) (by omega) (by omega) (by omega) (b4 hz) (hg.2.2.2.1 c hc) (hg.2.2.2.1 d hd)
    rw [if_pos hz, show f_R_mergeTrees g 60 (Int32.ofNat c) (Int32.ofNat d) = some (code2, g2) from k2, ob]
    dsimp only
    obtain ⟨yc', oc, x1, x2, x3, x4, x5⟩ := hW.2.2.2 c hc
    obtain ⟨yd', od, z1, z2, z3, z4, z5⟩ := hW.2.2.2 d hd
    rw [ec] at x1
    obtain rfl := Option.some.inj x1
    rw [ed] at z1
    obtain rfl := Option.some.inj z1
    obtain ⟨bf', k5⟩ := k1 σ1.2.2.2.2.2.2.2.1
    have hdm : f_V_draftMerging zT0 cm tm σ yc yd = some (code2, (σ1.1, σ1.2.1, σ1.2.2.1, σ1.2.2.2.1, σ1.2.2.2.2.1, σ1.2.2.2.2.2.1, t', bf', σ1.2.2.2.2.2.2.2.2.1, σ1.2.2.2.2.2.2.2.2.2.1, σ1.2.2.2.2.2.2.2.2.2.2.1, σ1.2.2.2.2.2.2.2.2.2.2.2.1, σ1.2.2.2.2.2.2.2.2.2.2.2.2)) := by
      unfold f_V_draftMerging
      rw [a1', ob]
      dsimp only
      rw [if_pos hz, x2, ob, x3, ob, become_eq x5, ob, z2, ob, z3, ob, a5, k5, ob, ← a5]
    have hS : SM 0 σ (σ1.1, σ1.2.1, σ1.2.2.1, σ1.2.2.2.1, σ1.2.2.2.2.1, σ1.2.2.2.2.2.1, t', bf', σ1.2.2.2.2.2.2.2.2.1, σ1.2.2.2.2.2.2.2.2.2.1, σ1.2.2.2.2.2.2.2.2.2.2.1, σ1.2.2.2.2.2.2.2.2.2.2.2.1, σ1.2.2.2.2.2.2.2.2.2.2.2.2) := ⟨a3.1, fun h => absurd h (by decide), fun h => absurd h (by decide), fun h => absurd h (by decide), fun h => absurd h (by decide)⟩
    have hI : INV n (σ1.1, σ1.2.1, σ1.2.2.1, σ1.2.2.2.1, σ1.2.2.2.2.1, σ1.2.2.2.2.2.1, t', bf', σ1.2.2.2.2.2.2.2.2.1, σ1.2.2.2.2.2.2.2.2.2.1, σ1.2.2.2.2.2.2.2.2.2.2.1, σ1.2.2.2.2.2.2.2.2.2.2.2.1, σ1.2.2.2.2.2.2.2.2.2.2.2.2) g2 cm tm := INV_RS (RS_t b3 (RS_Ot k3 (by decide) (by decide))) (INV_SM hS h)
    rw [hdm]
    simp only [ob]
    unfold J_R_merge_113
    by_cases hz2 : code2 = 0
    · rw [if_pos hz2, e0, e1]
      subst eb
      refine MK_congr (fun q => ?_) rfl (cmt_rr hI hn (k4 hz2) hb hc (by show σ1.2.2.1 c = some yc; rw [a3.1.2.2.1]; exact ec) hd (by show σ1.2.2.1 d = some yd; rw [a3.1.2.2.1]; exact ed) hcd)
      rw [if_pos hz2]
      exact bind_eta _
    · rw [if_neg hz2]
      refine MK_congr (fun q => ?_) rfl (MK_no ⟨n, hI⟩ code2)
      rw [if_neg hz2]
  · rw [if_neg hz]
    unfold J_R_merge_113
    rw [if_neg hz]
    refine MK_congr (fun q => ?_) rfl (MK_no ⟨n, INV_RS b3 (INV_SM a3 h)⟩ code')
    unfold f_V_draftMerging
    rw [a1', ob]
    dsimp only
    rw [if_neg hz, ob]
    dsimp only
    rw [if_neg hz]
end
theorem r_merge : zs_merge Inv := by
  intro k j
  apply mk_of
  rintro σ ρ cm tm ⟨n, h⟩
  obtain ⟨h1, h2, h3, h4, h5, h6, h7⟩ := id h
  show MK cm tm (fun q => f_V_merge q zT0 cm tm σ k j) (f_R_merge ρ k j)
  have h10 : ¬ ((1 : Int32) = 0) := by decide
  unfold f_R_merge f_V_merge
  rcases br_cases k with ⟨i, hi, rfl, e1, e2⟩ | ⟨e1, e2⟩
  · have zi : zin (Int32.ofNat i) 4 := (n_zin (by omega)).mpr hi
    have ki := n_cl (show i < 2147483648 by omega)
    simp only [e1, e2, ob, if_neg h10]
    rcases br_cases j with ⟨m, hm, rfl, f1, f2⟩ | ⟨f1, f2⟩
    · have zm : zin (Int32.ofNat m) 4 := (n_zin (by omega)).mpr hm
      have km := n_cl (show m < 2147483648 by omega)
      have qi : ρ.2.1.2.1.2 (Int32.ofNat i).toNatClampNeg = ρ.2.1.2.1.2 i := by rw [ki]
      have qm : ρ.2.1.2.1.2 (Int32.ofNat m).toNatClampNeg = ρ.2.1.2.1.2 m := by rw [km]
      simp only [f1, f2, ob, if_neg h10, if_pos zi, if_pos zm, h4.1, qi, qm]
      rcases h5 i hi with g | ⟨d, hd, g⟩
      · rw [g, if_neg (show ¬ ((0 : Int32) ≤ -1) by decide), commitAt_n h1 h2 (m1_none h1)]
        exact MK_no ⟨n, h⟩ (-1)
      · obtain ⟨yd, od, td, d1, d2, d3, d4, d5, d6, d7, d8, d9, d10, d11, d12⟩ := h7 d hd
        rw [g, if_pos (n_p (by omega)), commitAt_y h1 h2 hd d1]
        simp only [ob, zo_some]
        have mvh : MK cm tm (fun _ => Option.bind (f_V_moveHead zT0 cm tm σ (Int32.ofNat m) (Int32.ofNat d)) (fun v65 => some (Int32.ofNat d, v65, none))) (Option.bind (f_R_move ρ (Int32.ofNat m) (Int32.ofNat d)) (fun v58 => some (Int32.ofNat d, v58))) := by
          obtain ⟨σ', ρ', a1, a2, a3, a4, a5, a6, a7⟩ := mv h4 hm (Int32.ofNat d)
          rw [a1, a2, ob]
          exact MK_no ⟨n, mv_inv h hm (Or.inr ⟨d, hd, rfl⟩) a3 a4 a5 a6 a7⟩ (Int32.ofNat d)
        rcases h5 m hm with gm | ⟨c, hc, gm⟩
        · rw [gm, if_pos (show (-1 : Int32) < 0 by decide), commitAt_n h1 h2 (m1_none h1)]
          simp only [ob, zo_none, d2, d5]
          exact mvh
        · obtain ⟨yc, oc, tc, c1, c2, c3, c4, c5, c6, c7, c8, c9, c10, c11, c12⟩ := h7 c hc
          rw [gm, if_neg (n_nn (by omega)), commitAt_y h1 h2 hc c1, isAbove_eq (by omega) (by omega), isAbove_eq (by omega) (by omega)]
          simp only [ob, zo_some, d2, c2, desc_eq (o1 := od) (show c < 60 by omega) c5, desc_eq (o1 := oc) (show d < 60 by omega) d5, d9, c9, d5, c5]
          cases hb1 : bl (ρ.2.1.1.2 d) c with
          | true =>
            simp only [zB_t, if_neg h10]
            exact mvh
          | false =>
            simp only [zB_f, if_true]
            cases hb2 : bl (ρ.2.1.1.2 c) d with
            | true =>
              simp only [zB_t, if_neg h10]
              exact MK_no ⟨n, h⟩ _
            | false =>
              simp only [zB_f, if_true, h2, h3]
              by_cases hn : n < 60
              · rw [if_neg (fun g => absurd ((n60 h1).2.mp g) (by omega))]
                have hcd : c ≠ d := fun e => by rw [e, d12] at hb1; cases hb1
                refine MK_congr (fun q => ?_) rfl (mrg h hn hm hc hd hcd c1 d1 (Int32.ofNat i) (Int32.ofNat m) (by rw [ki]; exact g) (by rw [km]; exact gm) rfl)
                rw [if_pos ((n60 h1).1.mpr hn)]
              · rw [if_pos ((n60 h1).2.mpr (by omega))]
                refine MK_congr (fun q => ?_) rfl (MK_no ⟨n, h⟩ (-2))
                rw [if_neg (fun g => hn ((n60 h1).1.mp g))]
    · simp only [f1, f2, ob, if_true]
      exact MK_no ⟨n, h⟩ (-1)
  · simp only [e1, e2, ob, if_true]
    exact MK_no ⟨n, h⟩ (-1)

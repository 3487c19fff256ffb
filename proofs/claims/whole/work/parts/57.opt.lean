-- MERGING TREES: component and reference
theorem zOt_mk {ρ g : RSt} {t : Nat} (h0 : zNt ρ g) (h : ∀ u, u ≠ t → g.1.1.1.1.1 u = ρ.1.1.1.1.1 u ∧ g.1.1.1.1.2 u = ρ.1.1.1.1.2 u ∧ g.1.1.1.2 u = ρ.1.1.1.2 u ∧ g.1.1.2.1.1 u = ρ.1.1.2.1.1 u ∧ g.1.1.2.1.2 u = ρ.1.1.2.1.2 u ∧ g.1.2.1.1.2 u = ρ.1.2.1.1.2 u ∧ g.1.2.1.2 u = ρ.1.2.1.2 u ∧ g.1.2.2.1.1 u = ρ.1.2.2.1.1 u ∧ g.1.2.2.1.2 u = ρ.1.2.2.1.2 u ∧ g.1.1.2.2 u = ρ.1.1.2.2 u) (hq : ∀ j, (j < 8 * t ∨ 8 * t + 8 ≤ j) → g.1.2.1.1.1 j = ρ.1.2.1.1.1 j) : zOt ρ g t := by
  refine ⟨h0, fun u y hu hne hy => ?_⟩
  obtain ⟨⟨c1, c2, c3, c4, c5, c6, c7, c8, c9⟩, l, hl, hqr⟩ := hy
  obtain ⟨d1, d2, d3, d4, d5, d6, d7, d8, d9, d10⟩ := h u hne
  have hl8 := hl.1.1
  refine ⟨⟨d1.trans c1, d2.trans c2, d3.trans c3, d4.trans c4, d5.trans c5, d6.trans c6, d7.trans c7, d8.trans c8, d9.trans c9⟩, l, hl, d10.trans hqr.1, fun i e he => ?_⟩
  have hi : i < l.length := (List.getElem?_eq_some_iff.mp he).1
  rw [hq (8 * u + i) (by omega)]
  exact hqr.2 i e he
theorem e65 : (65 : Int32).toNatClampNeg = 65 := by decide
theorem clash_z (i j k : Int32) : ∃ c : Bool, f_M_clash i j k = some (zB c) := by
  unfold f_M_clash
  split
  · exact ⟨false, rfl⟩
  · split
    · exact ⟨false, rfl⟩
    · split
      · exact ⟨false, rfl⟩
      · exact ⟨true, rfl⟩
theorem mint_z (i j k : Int32) : ∃ c, f_M_mergedInt i j k = some c := by
  unfold f_M_mergedInt
  split <;> exact ⟨_, rfl⟩
theorem torn_eq (i j k : Int32) : f_R_torn i j k = f_M_clash i j k := rfl
theorem chosen_eq (i j k : Int32) : f_R_chosen i j k = f_M_mergedInt i j k := rfl
theorem bl_32 : ∀ k, k < 64 → bl 4294967295 k = decide (k < 32) := by decide +kernel
theorem bl_set (s : Int32) {k : Nat} (h : k < 64) : bl (s.toInt64 &&& 4294967295) k = (decide (k < 32) && bi s k) := by
  rw [bl_and, bl_32 k h]
  by_cases e : k < 32
  · rw [bl_i _ e]; simp [e]
  · simp [e]
theorem set_eq {b x y m : Int32} (h : f_M_mergedSet b x y = some m) : ((((b.toInt64 &&& 4294967295) &&& (x.toInt64 &&& 4294967295)) &&& (y.toInt64 &&& 4294967295)) ||| (((x.toInt64 &&& 4294967295) ||| (y.toInt64 &&& 4294967295)) &&& ((b.toInt64 &&& 4294967295) ^^^ (-1)))) = m.toInt64 &&& 4294967295 := by
  obtain ⟨m', e, hb⟩ := mset_bit b x y
  rw [h] at e
  obtain rfl := Option.some.inj e
  apply bl_ext
  intro k hk
  rw [bl_or, bl_and (_ &&& _) (y.toInt64 &&& _), bl_and (b.toInt64 &&& _) (x.toInt64 &&& _), bl_and (_ ||| _) _, bl_or, bl_not _ hk, bl_set _ hk, bl_set _ hk, bl_set _ hk, bl_set _ hk]
  by_cases e : k < 32
  · rw [hb k e]
    simp only [e, decide_true, Bool.true_and]
    cases bi b k <;> cases bi x k <;> cases bi y k <;> rfl
  · simp [e]
theorem nar_0 : vp_nar .boolean 0 = 0 := nar_z (Or.inl rfl)
theorem nar_1 : vp_nar .boolean 1 = 1 := nar_z (Or.inr rfl)
theorem opt_eq {ρ : RSt} {tb tx ty : Nat} {b x y : TreeV} (hb : tb < 67) (hx : tx < 67) (hy : ty < 67) (nb : tb ≠ 65) (nx : tx ≠ 65) (ny : ty ≠ 65)
    (tb6 : ρ.1.2.1.1.2 tb = b.2.2.2.2.2.2.1) (tx6 : ρ.1.2.1.1.2 tx = x.2.2.2.2.2.2.1) (ty6 : ρ.1.2.1.1.2 ty = y.2.2.2.2.2.2.1) (tb7 : ρ.1.2.1.2 tb = b.2.2.2.2.2.2.2.1) (tx7 : ρ.1.2.1.2 tx = x.2.2.2.2.2.2.2.1) (ty7 : ρ.1.2.1.2 ty = y.2.2.2.2.2.2.2.1)
    (zb : zb_z b.2.2.2.2.2.2.1) (zx : zb_z x.2.2.2.2.2.2.1) (zy : zb_z y.2.2.2.2.2.2.1) (ob0 : b.2.2.2.2.2.2.1 = 0 → b.2.2.2.2.2.2.2.1 = 0) :
    (f_R_optionTorn ρ (Int32.ofNat tb) (Int32.ofNat tx) (Int32.ofNat ty) = some 1 ∧ f_M_mergeOption x b y = some (0, x)) ∨
    (f_R_optionTorn ρ (Int32.ofNat tb) (Int32.ofNat tx) (Int32.ofNat ty) = some 0 ∧ ∃ hs op, f_R_mergeOptions ρ (Int32.ofNat tb) (Int32.ofNat tx) (Int32.ofNat ty) = some ((ρ.1.1, (((ρ.1.2.1.1.1, upd ρ.1.2.1.1.2 65 hs), vp_updL ρ.1.2.1.2 65 op), ρ.1.2.2)), ρ.2) ∧ f_M_mergeOption x b y = some (1, (x.1, x.2.1, x.2.2.1, x.2.2.2.1, x.2.2.2.2.1, x.2.2.2.2.2.1, hs, op, x.2.2.2.2.2.2.2.2.1, x.2.2.2.2.2.2.2.2.2)) ∧ zb_z hs ∧ (hs = 0 → op = 0)) := by
  have wb : zin (Int32.ofNat tb) 67 := (n_zin (by omega)).mpr hb
  have wx : zin (Int32.ofNat tx) 67 := (n_zin (by omega)).mpr hx
  have wy : zin (Int32.ofNat ty) 67 := (n_zin (by omega)).mpr hy
  have kb := n_cl (show tb < 2147483648 by omega)
  have kx := n_cl (show tx < 2147483648 by omega)
  have ky := n_cl (show ty < 2147483648 by omega)
  have h10 : ¬ ((1 : Int32) = 0) := by decide
  have h01 : ¬ ((0 : Int32) = 1) := by decide
  unfold f_R_optionTorn f_R_mergeOptions J_R_mergeOptions_23_2 J_R_mergeOptions_65_3 J_R_mergeOptions_90 J_R_mergeOptions_124 f_M_mergeOption J_M_mergeOption_61 J_M_mergeOption_93 J_M_mergeOption_93_2 f_M_mergedLong
  simp only [if_pos wb, if_pos wx, if_pos wy, kb, kx, ky, e65, upd_ne _ _ nb, upd_ne _ _ nx, upd_ne _ _ ny, upd_at, tb6, tx6, ty6, tb7, tx7, ty7, nar_0, nar_1]
  rcases zx with zx | zx <;> rcases zy with zy | zy <;> rcases zb with zb | zb <;> simp only [zx, zy, zb, if_true, if_false, if_pos rfl, if_neg h10, if_neg h01, h10, h01, lg_eq, ob, reduceCtorEq]
  · right; exact ⟨trivial, 0, 0, rfl, rfl, Or.inl rfl, fun _ => rfl⟩
  · right; exact ⟨trivial, 0, 0, rfl, rfl, Or.inl rfl, fun _ => rfl⟩
  · right; exact ⟨trivial, 1, y.2.2.2.2.2.2.2.1, rfl, by simp, Or.inr rfl, fun h => absurd h h10⟩
  · by_cases e : b.2.2.2.2.2.2.2.1 = y.2.2.2.2.2.2.2.1
    · right; simp only [e, if_true]; exact ⟨trivial, 0, 0, rfl, by simp, Or.inl rfl, fun _ => rfl⟩
    · left; simp [e]
  · right; exact ⟨trivial, 1, x.2.2.2.2.2.2.2.1, rfl, by simp, Or.inr rfl, fun h => absurd h h10⟩
  · by_cases e : b.2.2.2.2.2.2.2.1 = x.2.2.2.2.2.2.2.1
    · right; simp only [e, if_true]; exact ⟨trivial, 0, 0, rfl, by simp, Or.inl rfl, fun _ => rfl⟩
    · left; simp [e]
  · right; exact ⟨trivial, 1, _, rfl, by simp [ob0 zb], Or.inr rfl, fun h => absurd h h10⟩
  · right; exact ⟨trivial, 1, _, rfl, by simp, Or.inr rfl, fun h => absurd h h10⟩

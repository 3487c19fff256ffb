-- THE REFERENCE'S BASE
def RS (ρ g : RSt) : Prop := (g.2.1.1.1.1 = ρ.2.1.1.1.1 ∧ g.2.1.1.1.2 = ρ.2.1.1.1.2 ∧ g.2.1.1.2 = ρ.2.1.1.2 ∧ g.2.1.2.1.1 = ρ.2.1.2.1.1 ∧ g.2.1.2.1.2 = ρ.2.1.2.1.2 ∧ g.2.1.2.2 = ρ.2.1.2.2 ∧ g.2.2.1.1.1 = ρ.2.2.1.1.1 ∧ g.2.2.1.1.2 = ρ.2.2.1.1.2 ∧ g.1.2.2.2 = ρ.1.2.2.2) ∧ ∀ u y, (u < 60 ∨ u = 66) → zTr ρ u y → zTr g u y
def DS (δ : Nat) (g g' : RSt) : Prop := ∀ i, i < δ → g'.2.2.1.2 i = g.2.2.1.2 i ∧ g'.2.2.2.1 i = g.2.2.2.1 i ∧ g'.2.2.2.2 i = g.2.2.2.2 i ∧ ∀ y, zTr g (60 + i) y → zTr g' (60 + i) y
theorem RS_r (g : RSt) : RS g g := ⟨⟨rfl, rfl, rfl, rfl, rfl, rfl, rfl, rfl, rfl⟩, fun _ _ _ h => h⟩
theorem RS_t {a b c : RSt} (h : RS a b) (g : RS b c) : RS a c := by
  obtain ⟨⟨h1, h2, h3, h4, h5, h6, h7, h8, h9⟩, h10⟩ := h
  obtain ⟨⟨g1, g2, g3, g4, g5, g6, g7, g8, g9⟩, g10⟩ := g
  exact ⟨⟨g1.trans h1, g2.trans h2, g3.trans h3, g4.trans h4, g5.trans h5, g6.trans h6, g7.trans h7, g8.trans h8, g9.trans h9⟩, fun u y a b => g10 u y a (h10 u y a b)⟩
theorem DS_r (δ : Nat) (g : RSt) : DS δ g g := fun _ _ => ⟨rfl, rfl, rfl, fun _ h => h⟩
theorem DS_t {δ : Nat} {a b c : RSt} (h : DS δ a b) (g : DS δ b c) : DS δ a c := fun i hi => by
  obtain ⟨h1, h2, h3, h4⟩ := h i hi
  obtain ⟨g1, g2, g3, g4⟩ := g i hi
  exact ⟨g1.trans h1, g2.trans h2, g3.trans h3, fun y a => g4 y (h4 y a)⟩
theorem DS_d {δ : Nat} {a b : RSt} (h : DS (δ + 1) a b) : DS δ a b := fun i hi => h i (by omega)
theorem RS_Ot {t : Nat} {a b : RSt} (h : zOt a b t) (h1 : 60 ≤ t) (h2 : t ≠ 66) : RS a b := by
  obtain ⟨⟨h3, h4⟩, h5⟩ := h
  refine ⟨⟨by rw [h3], by rw [h3], by rw [h3], by rw [h3], by rw [h3], by rw [h3], by rw [h3], by rw [h3], h4⟩, fun u y a b => h5 u y (by omega) (by omega) b⟩
theorem DS_Ot {t δ : Nat} {a b : RSt} (h : zOt a b t) (h1 : 60 + δ ≤ t) (h2 : δ ≤ 5) : DS δ a b := by
  obtain ⟨⟨h3, h4⟩, h5⟩ := h
  exact fun i hi => ⟨by rw [h3], by rw [h3], by rw [h3], fun y a => h5 (60 + i) y (by omega) (by omega) a⟩
section
variable {n : Nat} {T : Nat → TreeV} {A : Nat → Int64}
/-- what the base needs of a state -/
def GS (n : Nat) (T : Nat → TreeV) (A : Nat → Int64) (g : RSt) : Prop := n ≤ 60 ∧ g.1.2.2.2 = Int32.ofNat n ∧ g.2.1.1.2 = A ∧ (∀ i, i < n → zTr g i (T i)) ∧ zTr g 66 zT0
theorem GS_RS {g g' : RSt} (h : RS g g') (w : GS n T A g) : GS n T A g' := by
  obtain ⟨w1, w2, w3, w4, w5⟩ := w
  refine ⟨w1, h.1.2.2.2.2.2.2.2.2.trans w2, h.1.2.2.1.trans w3, fun i hi => h.2 i _ (Or.inl (by omega)) (w4 i hi), h.2 66 _ (Or.inr rfl) w5⟩
theorem meetGS {g : RSt} (w : GS n T A g) {c d i : Nat} (hc : c < n) (hd : d < n) (hi : i < 2147483648) : f_R_meetOf g (Int32.ofNat c) (Int32.ofNat d) (Int32.ofNat i) = some (qn (ML A n c d 0)[i]?) := by
  obtain ⟨w1, w2, w3, w4, w5⟩ := w
  rw [← w3]
  exact meetOf_eq w1 w2 (by omega) (by omega) hi
def LR (g : RSt) (δ c d j : Nat) : Prop := g.2.2.1.2 δ = Int32.ofNat c ∧ g.2.2.2.1 δ = Int32.ofNat d ∧ g.2.2.2.2 δ = Int32.ofNat j
def ft (T : Nat → TreeV) (l : List Nat) : TreeV := match l with
  | [] => zT0
  | f :: _ => T f
theorem sixty (δ : Nat) : (60 : Int32) + Int32.ofNat δ = Int32.ofNat (60 + δ) := n_add 60 δ
theorem enter_eq {g : RSt} (w : GS n T A g) {δ c d : Nat} (hδ : δ < 5) (hc : c < n) (hd : d < n) : ∃ g', f_R_enter g (Int32.ofNat δ) (Int32.ofNat c) (Int32.ofNat d) = some g' ∧ RS g g' ∧ DS δ g g' ∧ LR g' δ c d 1 ∧ zTr g' (60 + δ) (ft T (ML A n c d 0)) := by
  unfold f_R_enter
  have z5 : zin (Int32.ofNat δ) 5 := (n_zin (by omega)).mpr hδ
  rw [if_pos z5, if_pos z5, if_pos z5, n_cl (by omega)]
  have w' : GS n T A (g.1, (g.2.1, ((g.2.2.1.1, upd g.2.2.1.2 δ (Int32.ofNat c)), (upd g.2.2.2.1 δ (Int32.ofNat d), upd g.2.2.2.2 δ 1)))) := w
  have hS : RS g (g.1, (g.2.1, ((g.2.2.1.1, upd g.2.2.1.2 δ (Int32.ofNat c)), (upd g.2.2.2.1 δ (Int32.ofNat d), upd g.2.2.2.2 δ 1)))) := ⟨⟨rfl, rfl, rfl, rfl, rfl, rfl, rfl, rfl, rfl⟩, fun _ _ _ h => h⟩
  have hD : DS δ g (g.1, (g.2.1, ((g.2.2.1.1, upd g.2.2.1.2 δ (Int32.ofNat c)), (upd g.2.2.2.1 δ (Int32.ofNat d), upd g.2.2.2.2 δ 1)))) := fun i hi => ⟨upd_ne _ _ (by omega), upd_ne _ _ (by omega), upd_ne _ _ (by omega), fun _ h => h⟩
  have fin : ∀ (s : Nat) (x : TreeV), s < 67 → zTr (g.1, (g.2.1, ((g.2.2.1.1, upd g.2.2.1.2 δ (Int32.ofNat c)), (upd g.2.2.2.1 δ (Int32.ofNat d), upd g.2.2.2.2 δ 1)))) s x → ∃ g', Option.bind (f_R_copy (g.1, (g.2.1, ((g.2.2.1.1, upd g.2.2.1.2 δ (Int32.ofNat c)), (upd g.2.2.2.1 δ (Int32.ofNat d), upd g.2.2.2.2 δ 1)))) (Int32.ofNat s) (60 + Int32.ofNat δ)) (fun v47 => some v47) = some g' ∧ RS g g' ∧ DS δ g g' ∧ LR g' δ c d 1 ∧ zTr g' (60 + δ) x := by
    intro s x hs hx
    obtain ⟨g', a1, a2, a3⟩ := copy_eq (b := 60 + δ) hs (by omega) hx
    rw [sixty, a1, ob]
    have h2 := a3.1.1
    refine ⟨g', rfl, RS_t hS (RS_Ot a3 (by omega) (by omega)), DS_t hD (DS_Ot a3 (by omega) (by omega)), ⟨?_, ?_, ?_⟩, a2⟩
    · rw [h2]; exact upd_at _ _ _
    · rw [h2]; exact upd_at _ _ _
    · rw [h2]; exact upd_at _ _ _
  have hm := meetGS w' hc hd (i := 0) (by decide)
  rw [show f_R_meetOf _ (Int32.ofNat c) (Int32.ofNat d) 0 = _ from hm, ob]
  cases hL : ML A n c d 0 with
  | nil =>
    rw [if_neg (show ¬ ((0 : Int32) ≤ qn ([] : List Nat)[0]?) by decide)]
    exact fin 66 zT0 (by decide) w'.2.2.2.2
  | cons f rest =>
    have hf := ML_mem (show f ∈ ML A n c d 0 by rw [hL]; exact List.mem_cons_self)
    have hn := w.1
    rw [show qn (f :: rest)[0]? = Int32.ofNat f from rfl, if_pos (n_p (by omega))]
    exact fin f (T f) (by omega) (w'.2.2.2.1 f hf.2.1)
/-- at depth δ there is nothing more to merge -/
def EXH (g : RSt) (δ : Nat) : Prop := ∃ v, ∀ F, L_R_base_9 (F + 1) (Int32.ofNat δ) g = J_R_base_68_2 (Int32.ofNat δ) g v (L_R_base_9 F) (-1)
theorem exh_mk {g : RSt} (w : GS n T A g) {δ c d j : Nat} (hδ : δ < 5) (hc : c < n) (hd : d < n) (hj : j < 2147483648) (hl : LR g δ c d j) (h : ML A n c d 0 = [] ∨ δ = 4 ∨ (ML A n c d 0)[j]? = none) : EXH g δ := by
  obtain ⟨l1, l2, l3⟩ := hl
  have hn := w.1
  refine ⟨qn (ML A n c d 0)[0]?, fun F => ?_⟩
  have z5 : zin (Int32.ofNat δ) 5 := (n_zin (by omega)).mpr hδ
  have k5 := n_cl (show δ < 2147483648 by omega)
  have q1 : g.2.2.1.2 (Int32.ofNat δ).toNatClampNeg = Int32.ofNat c := by rw [k5]; exact l1
  have q2 : g.2.2.2.1 (Int32.ofNat δ).toNatClampNeg = Int32.ofNat d := by rw [k5]; exact l2
  have q3 : g.2.2.2.2 (Int32.ofNat δ).toNatClampNeg = Int32.ofNat j := by rw [k5]; exact l3
  have hm := meetGS w hc hd (i := 0) (by decide)
  have hm : f_R_meetOf g (Int32.ofNat c) (Int32.ofNat d) 0 = _ := hm
  rw [L_R_base_9, if_neg (n_nn (by omega)), if_pos z5, if_pos z5, q1, q2, q3, hm, ob]
  cases hL : ML A n c d 0 with
  | nil =>
    rw [if_pos (show qn ([] : List Nat)[0]? < 0 by decide)]
  | cons f rest =>
    have hf := ML_mem (show f ∈ ML A n c d 0 by rw [hL]; exact List.mem_cons_self)
    rw [show qn (f :: rest)[0]? = Int32.ofNat f from rfl, if_neg (n_nn (by omega))]
    by_cases h4 : δ = 4
    · rw [if_pos (by rw [h4]; rfl)]
    · rw [if_neg (fun g => h4 ((c_eq 4 (by decide) (by omega)).mp g)), if_pos z5, if_pos z5, if_pos z5, meetGS w hc hd hj, ob]
      have h5 : (ML A n c d 0)[j]? = none := by
        rcases h with h | h | h
        · rw [hL] at h; cases h
        · exact absurd h h4
        · exact h
      rw [h5]
      rfl
/-- an entered base, k depths before the last, to its end -/
def NB (T : Nat → TreeV) (A : Nat → Int64) (n k U : Nat) : Prop := ∀ (δ c d : Nat) (g : RSt), δ + k = 4 → c < n → d < n → GS n T A g → LR g δ c d 1 → zTr g (60 + δ) (ft T (ML A n c d 0)) → ∃ u, u ≤ U ∧
    (((BaS T (fun c d => ML A n c d 0) k c d).1 = 0 ∧ ∃ g', (∀ F, L_R_base_9 (u + F) (Int32.ofNat δ) g = L_R_base_9 F (Int32.ofNat δ) g') ∧ RS g g' ∧ DS δ g g' ∧ EXH g' δ ∧ zTr g' (60 + δ) (BaS T (fun c d => ML A n c d 0) k c d).2) ∨
     ((BaS T (fun c d => ML A n c d 0) k c d).1 ≠ 0 ∧ ∃ g', (∀ F, L_R_base_9 (u + F) (Int32.ofNat δ) g = some (Sum.inl ((BaS T (fun c d => ML A n c d 0) k c d).1, g'))) ∧ RS g g'))
theorem NB0 : NB T A n 0 0 := by
  intro δ c d g hδ hc hd w hl ht
  refine ⟨0, Nat.le_refl _, Or.inl ⟨?_, g, fun F => by rw [Nat.zero_add], RS_r g, DS_r δ g, exh_mk w (by omega) hc hd (by decide) hl (Or.inr (Or.inl (by omega))), ?_⟩⟩
  · rw [BaS]; cases ML A n c d 0 <;> rfl
  · rw [BaS]
    cases hL : ML A n c d 0 with
    | nil => rw [hL] at ht; exact ht
    | cons f rest => rw [hL] at ht; exact ht
theorem RBs {k U : Nat} (hN : NB T A n k U) {δ c d f : Nat} {rest : List Nat} (hδ : δ + (k + 1) = 4) (hc : c < n) (hd : d < n) (hL : ML A n c d 0 = f :: rest) (hlen : rest.length < 60) : ∀ (r j : Nat), j + r = rest.length → ∀ (g : RSt) (t : TreeV), GS n T A g → LR g δ c d (j + 1) → zTr g (60 + δ) t → ∃ u, u ≤ r * (2 + U) ∧
    ((((rest.drop j).foldl (stp T (BaS T (fun c d => ML A n c d 0) k f)) (0, t)).1 = 0 ∧ ∃ g', (∀ F, L_R_base_9 (u + F) (Int32.ofNat δ) g = L_R_base_9 F (Int32.ofNat δ) g') ∧ RS g g' ∧ DS δ g g' ∧ EXH g' δ ∧ zTr g' (60 + δ) ((rest.drop j).foldl (stp T (BaS T (fun c d => ML A n c d 0) k f)) (0, t)).2) ∨
     (((rest.drop j).foldl (stp T (BaS T (fun c d => ML A n c d 0) k f)) (0, t)).1 ≠ 0 ∧ ∃ g', (∀ F, L_R_base_9 (u + F) (Int32.ofNat δ) g = some (Sum.inl (((rest.drop j).foldl (stp T (BaS T (fun c d => ML A n c d 0) k f)) (0, t)).1, g'))) ∧ RS g g')) := by
  intro r
  induction r with
  | zero =>
    intro j hj g t w hl ht
    rw [List.drop_eq_nil_of_le (by omega)]
    refine ⟨0, Nat.zero_le _, Or.inl ⟨rfl, g, fun F => by rw [Nat.zero_add], RS_r g, DS_r δ g, exh_mk w (by omega) hc hd (by omega) hl (Or.inr (Or.inr ?_)), ht⟩⟩
    rw [hL]
    exact List.getElem?_eq_none (by simp; omega)
  | succ r ih =>
    intro j hj g t w hl ht
    have hn := w.1
    have ej : rest[j]? = some rest[j] := List.getElem?_eq_getElem (by omega)
    generalize rest[j] = m at ej
    have hf := ML_mem (show f ∈ ML A n c d 0 by rw [hL]; exact List.mem_cons_self)
    have hm := ML_mem (show m ∈ ML A n c d 0 by rw [hL]; exact List.mem_cons_of_mem _ (List.mem_of_getElem? ej))
    have ed : rest.drop j = m :: rest.drop (j + 1) := drop_get ej
    rw [ed, List.foldl_cons]
    obtain ⟨l1, l2, l3⟩ := id hl
    have z5 : zin (Int32.ofNat δ) 5 := (n_zin (by omega)).mpr (by omega)
    have k5 := n_cl (show δ < 2147483648 by omega)
    have q1 : g.2.2.1.2 (Int32.ofNat δ).toNatClampNeg = Int32.ofNat c := by rw [k5]; exact l1
    have q2 : g.2.2.2.1 (Int32.ofNat δ).toNatClampNeg = Int32.ofNat d := by rw [k5]; exact l2
    have q3 : g.2.2.2.2 (Int32.ofNat δ).toNatClampNeg = Int32.ofNat (j + 1) := by rw [k5]; exact l3
    have m0 : f_R_meetOf g (Int32.ofNat c) (Int32.ofNat d) 0 = some (Int32.ofNat f) := by
      have := meetGS w hc hd (i := 0) (by decide)
      rw [hL] at this
      exact this
    have mj : ∀ g1, GS n T A g1 → f_R_meetOf g1 (Int32.ofNat c) (Int32.ofNat d) (Int32.ofNat (j + 1)) = some (Int32.ofNat m) := by
      intro g1 w1
      rw [meetGS w1 hc hd (by omega), hL, List.getElem?_cons_succ, ej]; rfl
    obtain ⟨g1, a1, a2, a3, a4, a5⟩ := enter_eq w (δ := δ + 1) (by omega) hf.2.1 hm.2.1
    have s1 : ∀ F, L_R_base_9 (F + 1) (Int32.ofNat δ) g = L_R_base_9 F (Int32.ofNat (δ + 1)) g1 := by
      intro F
      rw [L_R_base_9, if_neg (n_nn (by omega)), if_pos z5, if_pos z5, q1, q2, q3, m0, ob, if_neg (n_nn (by omega)), if_neg (fun g => absurd ((c_eq 4 (by decide) (by omega)).mp g) (by omega)), if_pos z5, if_pos z5, if_pos z5, mj g w, ob]
      unfold J_R_base_68_2
      rw [if_neg (n_nn (by omega)), n_s, a1, ob]
    have w1 := GS_RS a2 w
    obtain ⟨u1, hu1, hB⟩ := hN (δ + 1) f m g1 (by omega) hf.2.1 hm.2.1 w1 a4 a5
    rcases hB with ⟨b1, g2, b2, b3, b4, b5, b6⟩ | ⟨b1, g2, b2, b3⟩
    · -- the deeper base has been laid
      have w2 := GS_RS b3 w1
      have d2 : DS (δ + 1) g g2 := DS_t a3 b4
      obtain ⟨p1, p2, p3, p4⟩ := d2 δ (by omega)
      obtain ⟨code, t', g3, c1, c2, c3, c4⟩ := mt_eq (ρ := g2) (tb := 60 + δ + 1) (tx := 60 + δ) (ty := m) (by omega) (by omega) (by omega) (by omega) (by omega) (by omega) b6 (p4 t ht) (w2.2.2.2.1 m hm.2.1)
      have hmg := mgs_of c1
      have hst : stp T (BaS T (fun c d => ML A n c d 0) k f) (0, t) m = (code, t') := by
        unfold stp
        rw [if_pos rfl, if_pos b1]; exact hmg
      rw [hst]
      obtain ⟨v, hv⟩ := b5
      have r1 : g2.2.2.1.2 (Int32.ofNat δ).toNatClampNeg = Int32.ofNat c := by rw [k5, p1]; exact l1
      have r2 : g2.2.2.2.1 (Int32.ofNat δ).toNatClampNeg = Int32.ofNat d := by rw [k5, p2]; exact l2
      have r3 : g2.2.2.2.2 (Int32.ofNat δ).toNatClampNeg = Int32.ofNat (j + 1) := by rw [k5, p3]; exact l3
      have hm1 : (-1 : Int32) < 0 := by decide
      have R3 : RS g g3 := RS_t a2 (RS_t b3 (RS_Ot c3 (by omega) (by omega)))
      by_cases h0 : code = 0
      · obtain ⟨g4, e1, e2, e3⟩ := copy_eq (b := 60 + δ) (by decide : 65 < 67) (by omega) (c4 h0)
        have R4 : RS g g4 := RS_t R3 (RS_Ot e3 (by omega) (by omega))
        have D4 : DS δ g g4 := DS_t (DS_d d2) (DS_t (DS_Ot c3 (by omega) (by omega)) (DS_Ot e3 (by omega) (by omega)))
        have E4 : g4.2 = g2.2 := e3.1.1.trans c3.1.1
        have s2 : ∀ F, L_R_base_9 (F + 1) (Int32.ofNat (δ + 1)) g2 = L_R_base_9 F (Int32.ofNat δ) (g4.1, (g4.2.1, (g4.2.2.1, (g4.2.2.2.1, upd g4.2.2.2.2 δ (Int32.ofNat (j + 1 + 1)))))) := by
          intro F
          rw [hv F]
          unfold J_R_base_68_2
          have q4 : g4.2.2.2.2 (Int32.ofNat δ).toNatClampNeg = Int32.ofNat (j + 1) := by rw [E4]; exact r3
          rw [if_pos hm1, n_m1, if_neg (n_nn (by omega)), if_pos z5, if_pos z5, if_pos z5, r1, r2, r3, mj g2 w2, ob, sixty, n_s, c2, ob]
          dsimp only
          rw [if_pos h0, show (65 : Int32) = Int32.ofNat 65 from rfl, e1, ob, if_pos z5, if_pos z5, q4, n_s, k5]
        have R5 : RS g (g4.1, (g4.2.1, (g4.2.2.1, (g4.2.2.2.1, upd g4.2.2.2.2 δ (Int32.ofNat (j + 1 + 1)))))) := R4
        have D5 : DS δ g (g4.1, (g4.2.1, (g4.2.2.1, (g4.2.2.2.1, upd g4.2.2.2.2 δ (Int32.ofNat (j + 1 + 1)))))) := fun i hi => by
          obtain ⟨x1, x2, x3, x4⟩ := D4 i hi
          exact ⟨x1, x2, (upd_ne _ _ (by omega)).trans x3, x4⟩
        obtain ⟨u2, hu2, hR⟩ := ih (j + 1) (by omega) (g4.1, (g4.2.1, (g4.2.2.1, (g4.2.2.2.1, upd g4.2.2.2.2 δ (Int32.ofNat (j + 1 + 1)))))) t' (GS_RS R5 w) ⟨by
          show g4.2.2.1.2 δ = _
          rw [E4, p1]; exact l1, by
          show g4.2.2.2.1 δ = _
          rw [E4, p2]; exact l2, upd_at _ _ _⟩ e2
        have hp : ((code, t') : Int32 × TreeV) = (0, t') := by rw [h0]
        rw [hp]
        refine ⟨1 + (u1 + (1 + u2)), ?_, ?_⟩
        · rw [Nat.succ_mul]; omega
        · have step : ∀ F, L_R_base_9 (1 + (u1 + (1 + u2)) + F) (Int32.ofNat δ) g = L_R_base_9 (u2 + F) (Int32.ofNat δ) (g4.1, (g4.2.1, (g4.2.2.1, (g4.2.2.2.1, upd g4.2.2.2.2 δ (Int32.ofNat (j + 1 + 1)))))) := by
            intro F
            rw [show 1 + (u1 + (1 + u2)) + F = (u1 + ((u2 + F) + 1)) + 1 by omega, s1, b2, s2]
          rcases hR with ⟨y1, g', y2, y3, y4, y5, y6⟩ | ⟨y1, g', y2, y3⟩
          · left; exact ⟨y1, g', fun F => by rw [step F]; exact y2 F, RS_t R5 y3, DS_t D5 y4, y5, y6⟩
          · right; exact ⟨y1, g', fun F => by rw [step F]; exact y2 F, RS_t R5 y3⟩
      · rw [fold_stuck _ _ _ _ h0]
        refine ⟨1 + (u1 + 1), ?_, Or.inr ⟨h0, g3, fun F => ?_, R3⟩⟩
        · rw [Nat.succ_mul]; omega
        · rw [show 1 + (u1 + 1) + F = (u1 + (F + 1)) + 1 by omega, s1, b2, hv F]
          unfold J_R_base_68_2
          rw [if_pos hm1, n_m1, if_neg (n_nn (by omega)), if_pos z5, if_pos z5, if_pos z5, r1, r2, r3, mj g2 w2, ob, sixty, n_s, c2, ob]
          dsimp only
          rw [if_neg h0]
    · -- a conflict below
      have hst : stp T (BaS T (fun c d => ML A n c d 0) k f) (0, t) m = BaS T (fun c d => ML A n c d 0) k f m := by
        unfold stp
        rw [if_pos rfl, if_neg b1]
      rw [hst, fold_stuck _ _ _ _ b1]
      refine ⟨1 + u1, ?_, Or.inr ⟨b1, g2, fun F => ?_, RS_t a2 b3⟩⟩
      · rw [Nat.succ_mul]; omega
      · rw [show 1 + u1 + F = (u1 + F) + 1 by omega, s1]; exact b2 F
theorem NBs {k U : Nat} (hN : NB T A n k U) : NB T A n (k + 1) (60 * (2 + U)) := by
  intro δ c d g hδ hc hd w hl ht
  have hn := w.1
  rw [BaS]
  cases hL : ML A n c d 0 with
  | nil =>
    rw [hL] at ht
    exact ⟨0, Nat.zero_le _, Or.inl ⟨rfl, g, fun F => by rw [Nat.zero_add], RS_r g, DS_r δ g, exh_mk w (by omega) hc hd (by decide) hl (Or.inl hL), ht⟩⟩
  | cons f rest =>
    rw [hL] at ht
    have hlen := ML_len A n c d 0
    rw [hL, List.length_cons] at hlen
    obtain ⟨u, hu, h⟩ := RBs hN hδ hc hd hL (by omega) rest.length 0 (by omega) g (T f) w hl ht
    rw [List.drop_zero] at h
    refine ⟨u, Nat.le_trans hu (Nat.mul_le_mul_right _ (by omega)), h⟩
theorem base_eq {ρ : RSt} (w : GS n T A ρ) {c d : Nat} (hc : c < n) (hd : d < n) : ∃ code g', f_R_base ρ (Int32.ofNat c) (Int32.ofNat d) = some (code, g') ∧ code = (BaS T (fun c d => ML A n c d 0) 4 c d).1 ∧ RS ρ g' ∧ (code = 0 → zTr g' 60 (BaS T (fun c d => ML A n c d 0) 4 c d).2) := by
  obtain ⟨g, a1, a2, a3, a4, a5⟩ := enter_eq w (δ := 0) (by decide) hc hd
  unfold f_R_base
  rw [show f_R_enter ρ 0 (Int32.ofNat c) (Int32.ofNat d) = some g from a1, ob]
  obtain ⟨u, hu, h⟩ := NBs (NBs (NBs (NBs (NB0 (T := T) (A := A) (n := n))))) 0 c d g rfl hc hd (GS_RS a2 w) a4 a5
  have hz : ∃ F, zfuel = u + ((F + 1) + 1) := ⟨1000000000 - u - 2, by unfold zfuel; omega⟩
  obtain ⟨F, hz⟩ := hz
  rw [hz]
  rcases h with ⟨b1, g', b2, b3, b4, b5, b6⟩ | ⟨b1, g', b2, b3⟩
  · obtain ⟨v, hv⟩ := b5
    have e : L_R_base_9 (u + ((F + 1) + 1)) 0 g = some (Sum.inr (-1, g')) := by
      rw [show L_R_base_9 (u + ((F + 1) + 1)) 0 g = _ from b2 ((F + 1) + 1), hv (F + 1)]
      unfold J_R_base_68_2
      rw [if_pos (show (-1 : Int32) < 0 by decide), show Int32.ofNat 0 + (-1) = -1 by decide, if_pos (show (-1 : Int32) < 0 by decide), L_R_base_9, if_pos (show (-1 : Int32) < 0 by decide)]
    rw [e, ob]
    exact ⟨0, g', rfl, b1.symm, RS_t a2 b3, fun _ => b6⟩
  · rw [show L_R_base_9 (u + ((F + 1) + 1)) 0 g = _ from b2 ((F + 1) + 1), ob]
    exact ⟨_, g', rfl, rfl, RS_t a2 b3, fun h => absurd h b1⟩
end

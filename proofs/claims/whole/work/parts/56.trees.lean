-- TREES: the component's tree and a slot of the reference
def zTl (x : TreeV) (l : List Nat) : Prop := ql l ∧ x.2.2.2.2.2.1 = Int64.ofNat (pk l) ∧ zb_z x.2.2.2.2.2.2.1 ∧ (x.2.2.2.2.2.2.1 = 0 → x.2.2.2.2.2.2.2.1 = 0)
def zTw (x : TreeV) : Prop := ∃ l, zTl x l
/-- the slot's plain cells -/
def zTc (ρ : RSt) (t : Nat) (x : TreeV) : Prop := ρ.1.1.1.1.1 t = x.1 ∧ ρ.1.1.1.1.2 t = x.2.1 ∧ ρ.1.1.1.2 t = x.2.2.1 ∧ ρ.1.1.2.1.1 t = x.2.2.2.1 ∧ ρ.1.1.2.1.2 t = x.2.2.2.2.1.toInt64 &&& 4294967295 ∧ ρ.1.2.1.1.2 t = x.2.2.2.2.2.2.1 ∧ ρ.1.2.1.2 t = x.2.2.2.2.2.2.2.1 ∧ ρ.1.2.2.1.1 t = x.2.2.2.2.2.2.2.2.1 ∧ ρ.1.2.2.1.2 t = x.2.2.2.2.2.2.2.2.2
def zTr (ρ : RSt) (t : Nat) (x : TreeV) : Prop := zTc ρ t x ∧ ∃ l, zTl x l ∧ zqr ρ t l
/-- all but the trees is as it was -/
def zNt (ρ g : RSt) : Prop := g.2 = ρ.2 ∧ g.1.2.2.2 = ρ.1.2.2.2
/-- the slots but one are as they were -/
def zOt (ρ g : RSt) (t : Nat) : Prop := zNt ρ g ∧ ∀ u y, u < 67 → u ≠ t → zTr ρ u y → zTr g u y
theorem zNt_r (ρ : RSt) : zNt ρ ρ := ⟨rfl, rfl⟩
theorem zNt_t {ρ g h : RSt} (a : zNt ρ g) (b : zNt g h) : zNt ρ h := ⟨b.1.trans a.1, b.2.trans a.2⟩
theorem zOt_r (ρ : RSt) (t : Nat) : zOt ρ ρ t := ⟨zNt_r ρ, fun _ _ _ _ h => h⟩
theorem zOt_t {ρ g h : RSt} {t : Nat} (a : zOt ρ g t) (b : zOt g h t) : zOt ρ h t := ⟨zNt_t a.1 b.1, fun u y hu ht hy => b.2 u y hu ht (a.2 u y hu ht hy)⟩
theorem zTr_w {ρ : RSt} {t : Nat} {x : TreeV} (h : zTr ρ t x) : zTw x := by
  obtain ⟨-, l, h1, -⟩ := h; exact ⟨l, h1⟩
theorem L_copy {a b : Nat} (ha : a < 67) (hb : b < 67) : ∀ (j i : Nat), i + j = 8 → ∀ (g : RSt) n, ∃ w, L_R_copy_74 (Int32.ofNat a) (Int32.ofNat b) (n + (j + 1)) (Int32.ofNat i) g = some w ∧ w.2 = ((g.1.1, (((w.2.1.2.1.1.1, g.1.2.1.1.2), g.1.2.1.2), g.1.2.2)), g.2) ∧ (∀ m, (m < 8 * b ∨ 8 * b + 8 ≤ m) → w.2.1.2.1.1.1 m = g.1.2.1.1.1 m) ∧ (∀ m, m < i → w.2.1.2.1.1.1 (8 * b + m) = g.1.2.1.1.1 (8 * b + m)) ∧ (∀ m, i ≤ m → m < 8 → a ≠ b → w.2.1.2.1.1.1 (8 * b + m) = g.1.2.1.1.1 (8 * a + m)) ∧ (a = b → w.2.1.2.1.1.1 = g.1.2.1.1.1) := by
  intro j
  induction j with
  | zero =>
    intro i hi g n
    rw [L_R_copy_74, if_pos ((le_c 8 (by decide) (by omega)).mpr (by omega))]
    exact ⟨_, rfl, rfl, fun _ _ => rfl, fun _ _ => rfl, fun m h1 h2 => by omega, fun _ => rfl⟩
  | succ j ih =>
    intro i hi g n
    rw [show n + (j + 1 + 1) = (n + (j + 1)) + 1 by omega, L_R_copy_74, if_neg (fun g => absurd ((le_c 8 (by decide) (by omega)).mp g) (by omega))]
    rw [eight, eight, if_pos ((n_zin (by omega)).mpr (by omega)), if_pos ((n_zin (by omega)).mpr (by omega)), n_cl (by omega), n_cl (by omega), n_s]
    obtain ⟨w, e1, e2, e3, e4, e5, e6⟩ := ih (i + 1) (by omega) ((g.1.1, (((upd g.1.2.1.1.1 (8 * b + i) (g.1.2.1.1.1 (8 * a + i)), g.1.2.1.1.2), g.1.2.1.2), g.1.2.2)), g.2) n
    refine ⟨w, e1, e2, fun m hm => ?_, fun m hm => ?_, fun m h1 h2 h3 => ?_, fun h => ?_⟩
    · rw [e3 m hm]
      exact upd_ne _ _ (by omega)
    · rw [e4 m (by omega)]
      exact upd_ne _ _ (by omega)
    · by_cases em : m = i
      · subst em
        rw [e4 m (by omega)]
        exact upd_at _ _ _
      · rw [e5 m (by omega) h2 h3]
        refine upd_ne _ _ ?_
        intro e
        exact h3 (by omega)
    · rw [e6 h, h]
      exact upd_self _ _
theorem copy_eq {ρ : RSt} {a b : Nat} {x : TreeV} (ha : a < 67) (hb : b < 67) (h : zTr ρ a x) : ∃ g, f_R_copy ρ (Int32.ofNat a) (Int32.ofNat b) = some g ∧ zTr g b x ∧ zOt ρ g b := by
  have za : zin (Int32.ofNat a) 67 := (n_zin (by omega)).mpr ha
  have zb : zin (Int32.ofNat b) 67 := (n_zin (by omega)).mpr hb
  unfold f_R_copy
  simp only [if_pos za, if_pos zb, n_cl (show a < 2147483648 by omega), n_cl (show b < 2147483648 by omega)]
  obtain ⟨n, hn⟩ := zfuel_lt (k := 8) (by omega)
  rw [hn]
  obtain ⟨hc, l, hl, hq⟩ := h
  obtain ⟨w, e1, e2, e3, e4, e5, e6⟩ := L_copy ha hb 8 0 rfl ((((((vp_updL ρ.1.1.1.1.1 b (ρ.1.1.1.1.1 a)), (upd ρ.1.1.1.1.2 b (ρ.1.1.1.1.2 a))), (upd ρ.1.1.1.2 b (ρ.1.1.1.2 a))), (((upd ρ.1.1.2.1.1 b (ρ.1.1.2.1.1 a)), (vp_updL ρ.1.1.2.1.2 b (ρ.1.1.2.1.2 a))), (upd ρ.1.1.2.2 b (ρ.1.1.2.2 a)))), ρ.1.2), ρ.2) n
  rw [show L_R_copy_74 (Int32.ofNat a) (Int32.ofNat b) (n + (8 + 1)) 0 _ = some w from e1, ob]
  have hnar : vp_nar .boolean (w.2.1.2.1.1.2 a) = ρ.1.2.1.1.2 a := by
    have : w.2.1.2.1.1.2 = ρ.1.2.1.1.2 := by rw [e2]
    rw [this]
    apply nar_z
    rw [hc.2.2.2.2.2.1]; exact hl.2.2.1
  rw [hnar]
  have hl8 := hl.1.1
  have key : ∀ u y, u < 67 → (u ≠ b → zTr ρ u y) → (u = b → y = x) → zTr ((w.2.1.1, (((w.2.1.2.1.1.1, (upd w.2.1.2.1.1.2 b (ρ.1.2.1.1.2 a))), (vp_updL w.2.1.2.1.2 b (w.2.1.2.1.2 a))), (((vp_updL w.2.1.2.2.1.1 b (w.2.1.2.2.1.1 a)), (upd w.2.1.2.2.1.2 b (w.2.1.2.2.1.2 a))), w.2.1.2.2.2))), w.2.2) u y := by
    intro u y hu h1 h2
    by_cases eu : u = b
    · subst eu
      obtain rfl := h2 rfl
      refine ⟨?_, l, hl, ?_⟩
      · obtain ⟨c1, c2, c3, c4, c5, c6, c7, c8, c9⟩ := hc
        rw [e2]
        exact ⟨(updL_at _ _ _).trans c1, (upd_at _ _ _).trans c2, (upd_at _ _ _).trans c3, (upd_at _ _ _).trans c4, (updL_at _ _ _).trans c5, (upd_at _ _ _).trans c6, (updL_at _ _ _).trans c7, (updL_at _ _ _).trans c8, (upd_at _ _ _).trans c9⟩
      · refine ⟨?_, fun i e he => ?_⟩
        · rw [e2]; exact (upd_at _ _ _).trans hq.1
        · have hi : i < l.length := (List.getElem?_eq_some_iff.mp he).1
          show w.2.1.2.1.1.1 (8 * u + i) = _
          by_cases eab : a = u
          · rw [e6 eab]
            have := hq.2 i e he
            rw [eab] at this
            exact this
          · rw [e5 i (Nat.zero_le _) (by omega) eab]
            exact hq.2 i e he
    · obtain ⟨⟨c1, c2, c3, c4, c5, c6, c7, c8, c9⟩, l2, hl2, hq2⟩ := h1 eu
      have hl28 := hl2.1.1
      refine ⟨?_, l2, hl2, ?_⟩
      · rw [e2]
        exact ⟨(updL_ne _ _ eu).trans c1, (upd_ne _ _ eu).trans c2, (upd_ne _ _ eu).trans c3, (upd_ne _ _ eu).trans c4, (updL_ne _ _ eu).trans c5, (upd_ne _ _ eu).trans c6, (updL_ne _ _ eu).trans c7, (updL_ne _ _ eu).trans c8, (upd_ne _ _ eu).trans c9⟩
      · refine ⟨?_, fun i e he => ?_⟩
        · rw [e2]; exact (upd_ne _ _ eu).trans hq2.1
        · have hi : i < l2.length := (List.getElem?_eq_some_iff.mp he).1
          show w.2.1.2.1.1.1 (8 * u + i) = _
          rw [e3 (8 * u + i) (by omega)]
          exact hq2.2 i e he
  refine ⟨_, rfl, ?_, ?_, ?_⟩
  · exact key b x hb (fun h => absurd rfl h) (fun _ => rfl)
  · rw [e2]; exact ⟨rfl, rfl⟩
  · intro u y hu hne hy
    exact key u y hu (fun _ => hy) (fun h => absurd h hne)

-- NEW COMMITS
theorem zva_at {α : Type} (f : Nat → α) (k : Nat) (v : α) : va_up f k v k = v := by simp [va_up]
theorem zva_ne {α : Type} (f : Nat → α) {k j : Nat} (v : α) (h : j ≠ k) : va_up f k v j = f j := by simp [va_up, h]
section
variable {n : Nat} {σ : VSt} {ρ : RSt} {cm : Nat → Option ComV} {tm : Nat → Option TreeV}
theorem inv_new (h : INV n σ ρ cm tm) (hn : n < 60) {x : TreeV} {v9 : RSt} (hz : zTr v9 n x) (hO : zOt ρ v9 n) {q : Nat × Nat} (f1 : cm q.1 = none) (f2 : tm q.2 = none) {o1 o2 : Option Nat} {a0 a1 : Int32} (p1 : PAR σ n o1 a0) (p2 : PAR σ n o2 a1) {pa hs : Int64} (b1 : ∀ k, n < k → bl pa k = false) (b2 : bl pa n = true) (D : TreeV × (Nat → Int32) × TreeV × TreeV × TreeV × TreeV × TreeV) :
    INV (n + 1) (Int32.ofNat n + 1, σ.2.1, va_up σ.2.2.1 n (some q.1), σ.2.2.2.1, σ.2.2.2.2.1, σ.2.2.2.2.2.1, D) ((v9.1.1, (v9.1.2.1, (v9.1.2.2.1, v9.1.2.2.2 + 1))), ((((upd v9.2.1.1.1.1 n a0, upd v9.2.1.1.1.2 n a1), vp_updL v9.2.1.1.2 n pa), ((vp_updL v9.2.1.2.1.1 n hs, v9.2.1.2.1.2), v9.2.1.2.2)), v9.2.2)) (va_up cm q.1 (some (Int32.ofNat n, Int32.ofNat n + 1, o1, o2, q.2, pa, hs))) (va_up tm q.2 (some x)) := by
  obtain ⟨h1, h2, h3, ⟨h41, h42, h43, h44, h45⟩, h5, h6, h7⟩ := h
  obtain ⟨⟨e1, e2⟩, e3⟩ := hO
  have par : ∀ i o v, i ≤ n → PAR σ i o v → PAR (Int32.ofNat n + 1, σ.2.1, va_up σ.2.2.1 n (some q.1), σ.2.2.2.1, σ.2.2.2.2.1, σ.2.2.2.2.2.1, D) i o v := by
    rintro i o v hi (⟨g1, g2⟩ | ⟨p, yp, hp, g1, g2, g3⟩)
    · exact Or.inl ⟨g1, g2⟩
    · refine Or.inr ⟨p, yp, hp, g1, ?_, g3⟩
      show va_up σ.2.2.1 n (some q.1) p = some yp
      rw [zva_ne _ _ (by omega)]; exact g2
  refine ⟨by omega, n_s n, ?_, ⟨?_, ?_, ?_, ?_, ?_⟩, fun b hb => ?_, ?_, fun i hi => ?_⟩
  · show v9.1.2.2.2 + 1 = _
    rw [e2, h3]; exact n_s n
  · show σ.2.2.2.1 = v9.2.1.2.1.2
    rw [e1]; exact h41
  · show σ.2.2.2.2.1 = v9.2.1.2.2
    rw [e1]; exact h42
  · show σ.2.1 = v9.2.2.1.1.1
    rw [e1]; exact h43
  · show ∃ e, e ≤ 100 ∧ v9.2.2.1.1.1 = Int32.ofNat e
    rw [e1]; exact h44
  · show σ.2.2.2.2.2.1 = v9.2.2.1.1.2
    rw [e1]; exact h45
  · show v9.2.1.2.1.2 b = -1 ∨ ∃ c, c < n + 1 ∧ v9.2.1.2.1.2 b = Int32.ofNat c
    rw [e1]
    rcases h5 b hb with g | ⟨c, hc, g⟩
    · exact Or.inl g
    · exact Or.inr ⟨c, by omega, g⟩
  · exact e3 66 zT0 (by decide) (by omega) h6
  · by_cases ei : i = n
    · subst ei
      refine ⟨q.1, _, x, zva_at _ _ _, zva_at _ _ _, zva_at _ _ _, hz, rfl, n_s i, ?_, ?_, ?_, ?_, fun k hk => ?_, ?_⟩
      · show PAR _ i o1 (upd v9.2.1.1.1.1 i a0 i)
        rw [upd_at]; exact par i _ _ (Nat.le_refl _) p1
      · show PAR _ i o2 (upd v9.2.1.1.1.2 i a1 i)
        rw [upd_at]; exact par i _ _ (Nat.le_refl _) p2
      · exact (updL_at _ _ _).symm
      · exact (updL_at _ _ _).symm
      · show bl (vp_updL v9.2.1.1.2 i pa i) k = false
        rw [updL_at]; exact b1 k hk
      · show bl (vp_updL v9.2.1.1.2 i pa i) i = true
        rw [updL_at]; exact b2
    · obtain ⟨y, c, t, c1, c2, c3, c4, c5, c6, c7, c8, c9, c10, c11, c12⟩ := h7 i (by omega)
      have ny : y ≠ q.1 := fun g => by rw [g, f1] at c2; cases c2
      have nt : c.2.2.2.2.1 ≠ q.2 := fun g => by rw [g, f2] at c3; cases c3
      refine ⟨y, c, t, (zva_ne _ _ ei).trans c1, (zva_ne _ _ ny).trans c2, (zva_ne _ _ nt).trans c3, e3 i t (by omega) ei c4, c5, c6, ?_, ?_, ?_, ?_, ?_, ?_⟩
      · show PAR _ i _ (upd v9.2.1.1.1.1 n a0 i)
        rw [upd_ne _ _ ei, e1]; exact par i _ _ (by omega) c7
      · show PAR _ i _ (upd v9.2.1.1.1.2 n a1 i)
        rw [upd_ne _ _ ei, e1]; exact par i _ _ (by omega) c8
      · show _ = vp_updL v9.2.1.1.2 n pa i
        rw [updL_ne _ _ ei, e1]; exact c9
      · show _ = vp_updL v9.2.1.2.1.1 n hs i
        rw [updL_ne _ _ ei, e1]; exact c10
      · show ∀ k, i < k → bl (vp_updL v9.2.1.1.2 n pa i) k = false
        rw [updL_ne _ _ ei, e1]; exact c11
      · show bl (vp_updL v9.2.1.1.2 n pa i) i = true
        rw [updL_ne _ _ ei, e1]; exact c12
theorem fin_new (h : INV n σ ρ cm tm) (hn : n < 60) {x : TreeV} {v9 : RSt} (hz : zTr v9 n x) (hO : zOt ρ v9 n) {o1 o2 : Option Nat} {a0 a1 : Int32} (p1 : PAR σ n o1 a0) (p2 : PAR σ n o2 a1) {pa hs : Int64} (b1 : ∀ k, n < k → bl pa k = false) (b2 : bl pa n = true) (D : TreeV × (Nat → Int32) × TreeV × TreeV × TreeV × TreeV × TreeV) {b : Nat} (hb : b < 4) :
    ∃ ρ', f_R_move ((v9.1.1, (v9.1.2.1, (v9.1.2.2.1, v9.1.2.2.2 + 1))), ((((upd v9.2.1.1.1.1 n a0, upd v9.2.1.1.1.2 n a1), vp_updL v9.2.1.1.2 n pa), ((vp_updL v9.2.1.2.1.1 n hs, v9.2.1.2.1.2), v9.2.1.2.2)), v9.2.2)) (Int32.ofNat b) (Int32.ofNat n) = some ρ' ∧ ∀ q : Nat × Nat, ∃ σ', (∀ cm0 tm0, f_V_moveHead zT0 cm0 tm0 (Int32.ofNat n + 1, σ.2.1, va_up σ.2.2.1 n (some q.1), σ.2.2.2.1, σ.2.2.2.2.1, σ.2.2.2.2.2.1, D) (Int32.ofNat b) (Int32.ofNat n) = some σ') ∧ (cm q.1 = none → tm q.2 = none → INV (n + 1) σ' ρ' (va_up cm q.1 (some (Int32.ofNat n, Int32.ofNat n + 1, o1, o2, q.2, pa, hs))) (va_up tm q.2 (some x))) := by
  have hw : ∀ q : Nat × Nat, HW (Int32.ofNat n + 1, σ.2.1, va_up σ.2.2.1 n (some q.1), σ.2.2.2.1, σ.2.2.2.2.1, σ.2.2.2.2.2.1, D) ((v9.1.1, (v9.1.2.1, (v9.1.2.2.1, v9.1.2.2.2 + 1))), ((((upd v9.2.1.1.1.1 n a0, upd v9.2.1.1.1.2 n a1), vp_updL v9.2.1.1.2 n pa), ((vp_updL v9.2.1.2.1.1 n hs, v9.2.1.2.1.2), v9.2.1.2.2)), v9.2.2)) := by
    intro q
    obtain ⟨h41, h42, h43, h44, h45⟩ := h.2.2.2.1
    have e1 := hO.1.1
    refine ⟨?_, ?_, ?_, ?_, ?_⟩
    · show σ.2.2.2.1 = v9.2.1.2.1.2
      rw [e1]; exact h41
    · show σ.2.2.2.2.1 = v9.2.1.2.2
      rw [e1]; exact h42
    · show σ.2.1 = v9.2.2.1.1.1
      rw [e1]; exact h43
    · show ∃ e, e ≤ 100 ∧ v9.2.2.1.1.1 = Int32.ofNat e
      rw [e1]; exact h44
    · show σ.2.2.2.2.2.1 = v9.2.2.1.1.2
      rw [e1]; exact h45
  obtain ⟨σ0, ρ', m1, m2, m3⟩ := mv (hw (0, 0)) hb (Int32.ofNat n)
  refine ⟨ρ', m2, fun q => ?_⟩
  obtain ⟨σ', ρ2, k1, k2, k3, k4, k5, k6, k7⟩ := mv (hw q) hb (Int32.ofNat n)
  rw [m2] at k2
  obtain rfl := Option.some.inj k2
  refine ⟨σ', k1, fun f1 f2 => ?_⟩
  exact mv_inv (inv_new h hn hz hO f1 f2 p1 p2 b1 b2 D) hb (Or.inr ⟨n, by omega, rfl⟩) k3 k4 k5 k6 k7
theorem pa_bits {pp pq : Int64} (hn : n < 60) (h1 : ∀ k, n < k → bl pp k = false) (h2 : ∀ k, n < k → bl pq k = false) : (∀ k, n < k → bl (((zs_l 1 (Int32.ofNat n)) ||| pp) ||| pq) k = false) ∧ bl (((zs_l 1 (Int32.ofNat n)) ||| pp) ||| pq) n = true := by
  constructor
  · intro k hk
    rw [bl_or, bl_or, h1 k hk, h2 k hk, Bool.or_false, Bool.or_false]
    rcases Nat.lt_or_ge k 64 with g | g
    · rw [bl_s1 (by omega) g, decide_eq_false (by omega)]
    · exact bl_hi _ g
  · rw [bl_or, bl_or, bl_s1 (by omega) (by omega), decide_eq_true rfl]; rfl
theorem INV_RS {g : RSt} (h : RS ρ g) (w : INV n σ ρ cm tm) : INV n σ g cm tm := by
  obtain ⟨h1, h2, h3, ⟨h41, h42, h43, h44, h45⟩, h5, h6, h7⟩ := w
  obtain ⟨⟨r1, r2, r3, r4, r5, r6, r7, r8, r9⟩, r10⟩ := h
  refine ⟨h1, h2, r9.trans h3, ⟨h41.trans r5.symm, h42.trans r6.symm, h43.trans r7.symm, by rw [r7]; exact h44, h45.trans r8.symm⟩, by rw [r5]; exact h5, r10 66 _ (Or.inr rfl) h6, fun i hi => ?_⟩
  obtain ⟨y, c, t, c1, c2, c3, c4, c5, c6, c7, c8, c9, c10, c11, c12⟩ := h7 i hi
  refine ⟨y, c, t, c1, c2, c3, r10 i t (Or.inl (by omega)) c4, c5, c6, ?_, ?_, ?_, ?_, ?_, ?_⟩
  · rw [r1]; exact c7
  · rw [r2]; exact c8
  · rw [r3]; exact c9
  · rw [r4]; exact c10
  · rw [r3]; exact c11
  · rw [r3]; exact c12
theorem INV_SM {j : Nat} {σ' : VSt} (h : SM j σ σ') (w : INV n σ ρ cm tm) : INV n σ' ρ cm tm := by
  obtain ⟨h1, h2, h3, ⟨h41, h42, h43, h44, h45⟩, h5, h6, h7⟩ := w
  obtain ⟨⟨r1, r2, r3, r4, r5, r6⟩, -⟩ := h
  exact ⟨h1, r1.trans h2, h3, ⟨r4.trans h41, r5.trans h42, r2.trans h43, h44, r6.trans h45⟩, h5, h6, CMT_made r3 h7⟩
/-- the end of a call that makes a commit -/
def MK (cm : Nat → Option ComV) (tm : Nat → Option TreeV) (F : Nat × Nat → Option (Int32 × VSt × Option (ComV × TreeV))) (G : Option (Int32 × RSt)) : Prop := ∃ w, G = some w ∧ ∀ q, ∃ v, F q = some v ∧ v.1 = w.1 ∧ (zFr cm tm q v.2.2 → Inv v.2.1 w.2 (zcm cm q v.2.2) (ztm tm q v.2.2))
theorem MK_no (h : Inv σ ρ cm tm) (r : Int32) : MK cm tm (fun _ => some (r, σ, none)) (some (r, ρ)) :=
  ⟨_, rfl, fun q => ⟨_, rfl, rfl, fun _ => h⟩⟩
theorem MK_end (h : INV n σ ρ cm tm) (hn : n < 60) {x : TreeV} {v9 : RSt} (hz : zTr v9 n x) (hO : zOt ρ v9 n) {o1 o2 : Option Nat} {a0 a1 : Int32} (p1 : PAR σ n o1 a0) (p2 : PAR σ n o2 a1) {pa hs : Int64} (b1 : ∀ k, n < k → bl pa k = false) (b2 : bl pa n = true) (D : TreeV × (Nat → Int32) × TreeV × TreeV × TreeV × TreeV × TreeV) {b : Nat} (hb : b < 4) :
    MK cm tm (fun q => Option.bind (f_V_moveHead zT0 cm tm (Int32.ofNat n + 1, σ.2.1, va_up σ.2.2.1 n (some q.1), σ.2.2.2.1, σ.2.2.2.2.1, σ.2.2.2.2.2.1, D) (Int32.ofNat b) (Int32.ofNat n)) (fun v42 => some (Int32.ofNat n, v42, some ((Int32.ofNat n, Int32.ofNat n + 1, o1, o2, q.2, pa, hs), x)))) (Option.bind (f_R_move ((v9.1.1, (v9.1.2.1, (v9.1.2.2.1, v9.1.2.2.2 + 1))), ((((upd v9.2.1.1.1.1 n a0, upd v9.2.1.1.1.2 n a1), vp_updL v9.2.1.1.2 n pa), ((vp_updL v9.2.1.2.1.1 n hs, v9.2.1.2.1.2), v9.2.1.2.2)), v9.2.2)) (Int32.ofNat b) (Int32.ofNat n)) (fun v161 => some (Int32.ofNat n, v161))) := by
  obtain ⟨ρ', m1, m2⟩ := fin_new h hn hz hO p1 p2 b1 b2 D hb (hs := hs)
  refine ⟨_, by rw [m1]; rfl, fun q => ?_⟩
  obtain ⟨σ', k1, k2⟩ := m2 q
  refine ⟨_, by show Option.bind (f_V_moveHead zT0 cm tm _ _ _) _ = _; rw [k1]; rfl, rfl, fun hf => ?_⟩
  obtain ⟨f1, f2⟩ := hf (by simp)
  exact ⟨n + 1, k2 f1 f2⟩
end

-- COMMITS OF BOTH
section
variable {n : Nat} {σ : VSt} {ρ : RSt} {cm : Nat → Option ComV} {tm : Nat → Option TreeV}
theorem rcm {v9 : RSt} (h3 : ρ.1.2.2.2 = Int32.ofNat n) (hn : n < 60) (k1 : f_R_copy ρ 65 (Int32.ofNat n) = some v9) {a0 a1 : Int32} {pp pq : Int64} (e0 : (a0 < 0 ∧ pp = 0) ∨ ∃ p, p < 60 ∧ a0 = Int32.ofNat p ∧ pp = v9.2.1.1.2 p) (e1 : (a1 < 0 ∧ pq = 0) ∨ ∃ p, p < 60 ∧ a1 = Int32.ofNat p ∧ pq = v9.2.1.1.2 p) {r : Int64}
    (hk : f_R_hashOf (v9.1, ((((upd v9.2.1.1.1.1 n a0, upd v9.2.1.1.1.2 n a1), vp_updL v9.2.1.1.2 n (((zs_l 1 (Int32.ofNat n)) ||| pp) ||| pq)), v9.2.1.2), v9.2.2)) (Int32.ofNat n) = some r) :
    f_R_commit ρ a0 a1 = some (Int32.ofNat n, ((v9.1.1, (v9.1.2.1, (v9.1.2.2.1, v9.1.2.2.2 + 1))), ((((upd v9.2.1.1.1.1 n a0, upd v9.2.1.1.1.2 n a1), vp_updL v9.2.1.1.2 n (((zs_l 1 (Int32.ofNat n)) ||| pp) ||| pq)), ((vp_updL v9.2.1.2.1.1 n r, v9.2.1.2.1.2), v9.2.1.2.2)), v9.2.2))) := by
  have zn : zin (Int32.ofNat n) 60 := (n_zin (by omega)).mpr hn
  have kn := n_cl (show n < 2147483648 by omega)
  have fin : J_R_commit_63 ρ a0 a1 v9 pp pq = some (Int32.ofNat n, ((v9.1.1, (v9.1.2.1, (v9.1.2.2.1, v9.1.2.2.2 + 1))), ((((upd v9.2.1.1.1.1 n a0, upd v9.2.1.1.1.2 n a1), vp_updL v9.2.1.1.2 n (((zs_l 1 (Int32.ofNat n)) ||| pp) ||| pq)), ((vp_updL v9.2.1.2.1.1 n r, v9.2.1.2.1.2), v9.2.1.2.2)), v9.2.2))) := by
    unfold J_R_commit_63
    rw [h3, if_pos zn]
    have hk' : f_R_hashOf (v9.1, ((((upd v9.2.1.1.1.1 (Int32.ofNat n).toNatClampNeg a0, upd v9.2.1.1.1.2 (Int32.ofNat n).toNatClampNeg a1), vp_updL v9.2.1.1.2 (Int32.ofNat n).toNatClampNeg (((zs_l 1 (Int32.ofNat n)) ||| pp) ||| pq)), v9.2.1.2), v9.2.2)) (Int32.ofNat n) = some r := by rw [kn]; exact hk
    rw [show f_R_hashOf _ (Int32.ofNat n) = some r from hk', ob, if_pos zn, kn]
  have mid : J_R_commit_48 ρ a0 a1 v9 pp = some (Int32.ofNat n, ((v9.1.1, (v9.1.2.1, (v9.1.2.2.1, v9.1.2.2.2 + 1))), ((((upd v9.2.1.1.1.1 n a0, upd v9.2.1.1.1.2 n a1), vp_updL v9.2.1.1.2 n (((zs_l 1 (Int32.ofNat n)) ||| pp) ||| pq)), ((vp_updL v9.2.1.2.1.1 n r, v9.2.1.2.1.2), v9.2.1.2.2)), v9.2.2))) := by
    unfold J_R_commit_48
    rcases e1 with ⟨g1, g2⟩ | ⟨p, hp, g1, g2⟩
    · rw [if_pos g1, ← g2]; exact fin
    · have q1 : ¬ (a1 < 0) := by rw [g1]; exact n_nn (by omega)
      have q2 : zin a1 60 := by rw [g1]; exact (n_zin (by omega)).mpr hp
      have q3 : v9.2.1.1.2 a1.toNatClampNeg = pq := by rw [g1, n_cl (by omega)]; exact g2.symm
      rw [if_neg q1, if_pos q2, q3]; exact fin
  unfold f_R_commit
  rw [h3, k1, ob, if_pos zn, if_pos zn]
  rcases e0 with ⟨g1, g2⟩ | ⟨p, hp, g1, g2⟩
  · rw [if_pos g1, ← g2]; exact mid
  · have q1 : ¬ (a0 < 0) := by rw [g1]; exact n_nn (by omega)
    have q2 : zin a0 60 := by rw [g1]; exact (n_zin (by omega)).mpr hp
    have q3 : v9.2.1.1.2 a0.toNatClampNeg = pp := by rw [g1, n_cl (by omega)]; exact g2.symm
    rw [if_neg q1, if_pos q2, q3]; exact mid
theorem m1neg : (-1 : Int32) < 0 := by decide
theorem cmt_nn (h : INV n σ ρ cm tm) (hn : n < 60) (hz : zTr ρ 65 σ.2.2.2.2.2.2.1) {b : Nat} (hb : b < 4) : MK cm tm (fun q => f_V_commitDraft_nn q zT0 cm tm σ (Int32.ofNat b)) (Option.bind (f_R_commit ρ (-1) (-1)) (fun v152 => Option.bind (f_R_move v152.2 (Int32.ofNat b) v152.1) (fun v161 => some (v152.1, v161)))) := by
  obtain ⟨h1, h2, h3, h4, h5, h6, h7⟩ := id h
  obtain ⟨v9, k1, k2, k3⟩ := copy_eq (a := 65) (b := n) (by decide) (by omega) hz
  have hpa := pa_bits (n := n) hn l0_bits l0_bits
  have hfc := fc0
  have hk := hashOf_nn (ρ := (v9.1, ((((upd v9.2.1.1.1.1 n (-1), upd v9.2.1.1.1.2 n (-1)), vp_updL v9.2.1.1.2 n (((zs_l 1 (Int32.ofNat n)) ||| 0) ||| 0)), v9.2.1.2), v9.2.2))) hn (upd_at _ _ _) (upd_at _ _ _)
  generalize mx (-3750763034362895579) (0 + 0) = z at hfc hk
  obtain ⟨r, r1, r2⟩ := h93 (ρ := (v9.1, ((((upd v9.2.1.1.1.1 n (-1), upd v9.2.1.1.1.2 n (-1)), vp_updL v9.2.1.1.2 n (((zs_l 1 (Int32.ofNat n)) ||| 0) ||| 0)), v9.2.1.2), v9.2.2))) hn k2 z
  rw [r2] at hk
  have zn : zin (Int32.ofNat n) 60 := (n_zin (by omega)).mpr hn
  have kn := n_cl (show n < 2147483648 by omega)
  refine MK_congr (fun q => ?_) ?_ (MK_end h hn k2 k3 (Or.inl ⟨rfl, rfl⟩) (Or.inl ⟨rfl, rfl⟩) hpa.1 hpa.2 (hs := r) σ.2.2.2.2.2.2 hb)
  · unfold f_V_commitDraft_nn
    rw [h2, ini_nn hn (zTr_w hz) hfc r1, ob, if_pos zn, kn]
  · rw [rcm h3 hn k1 (Or.inl ⟨m1neg, rfl⟩) (Or.inl ⟨m1neg, rfl⟩) hk, ob]
theorem cmt_rn (h : INV n σ ρ cm tm) (hn : n < 60) (hz : zTr ρ 65 σ.2.2.2.2.2.2.1) {b : Nat} (hb : b < 4) {p y : Nat} (hp : p < n) (hy : σ.2.2.1 p = some y) : MK cm tm (fun q => f_V_commitDraft_rn q zT0 cm tm σ (Int32.ofNat b) y) (Option.bind (f_R_commit ρ (Int32.ofNat p) (-1)) (fun v152 => Option.bind (f_R_move v152.2 (Int32.ofNat b) v152.1) (fun v161 => some (v152.1, v161)))) := by
  obtain ⟨h1, h2, h3, h4, h5, h6, h7⟩ := id h
  obtain ⟨y', c, t, c1, c2, c3, c4, c5, c6, c7, c8, c9, c10, c11, c12⟩ := h7 p hp
  rw [hy] at c1
  obtain rfl := Option.some.inj c1
  obtain ⟨v9, k1, k2, k3⟩ := copy_eq (a := 65) (b := n) (by decide) (by omega) hz
  have ha : v9.2.1.1.2 = ρ.2.1.1.2 := by rw [k3.1.1]
  have hh : v9.2.1.2.1.1 = ρ.2.1.2.1.1 := by rw [k3.1.1]
  have hpa := pa_bits (n := n) (pp := c.2.2.2.2.2.1) hn (fun k hk => by rw [c9]; exact c11 k (by omega)) l0_bits
  have hfc := fc1
  have hk := hashOf_rn (ρ := (v9.1, ((((upd v9.2.1.1.1.1 n (Int32.ofNat p), upd v9.2.1.1.1.2 n (-1)), vp_updL v9.2.1.1.2 n (((zs_l 1 (Int32.ofNat n)) ||| c.2.2.2.2.2.1) ||| 0)), v9.2.1.2), v9.2.2))) hn (show p < 60 by omega) (upd_at _ _ _) (upd_at _ _ _)
  generalize mx (-3750763034362895579) (1 + 0) = z at hfc hk
  have hk : f_R_hashOf (v9.1, ((((upd v9.2.1.1.1.1 n (Int32.ofNat p), upd v9.2.1.1.1.2 n (-1)), vp_updL v9.2.1.1.2 n (((zs_l 1 (Int32.ofNat n)) ||| c.2.2.2.2.2.1) ||| 0)), v9.2.1.2), v9.2.2)) (Int32.ofNat n) = J_R_hashOf_93 (v9.1, ((((upd v9.2.1.1.1.1 n (Int32.ofNat p), upd v9.2.1.1.1.2 n (-1)), vp_updL v9.2.1.1.2 n (((zs_l 1 (Int32.ofNat n)) ||| c.2.2.2.2.2.1) ||| 0)), v9.2.1.2), v9.2.2)) (Int32.ofNat n) (mx z (v9.2.1.2.1.1 p)) := hk
  obtain ⟨r, r1, r2⟩ := h93 (ρ := (v9.1, ((((upd v9.2.1.1.1.1 n (Int32.ofNat p), upd v9.2.1.1.1.2 n (-1)), vp_updL v9.2.1.1.2 n (((zs_l 1 (Int32.ofNat n)) ||| c.2.2.2.2.2.1) ||| 0)), v9.2.1.2), v9.2.2))) hn k2 (mx z (v9.2.1.2.1.1 p))
  rw [r2] at hk
  rw [hh, ← c10] at r1
  have zn : zin (Int32.ofNat n) 60 := (n_zin (by omega)).mpr hn
  have kn := n_cl (show n < 2147483648 by omega)
  refine MK_congr (fun q => ?_) ?_ (MK_end h hn k2 k3 (Or.inr ⟨p, y, hp, rfl, hy, rfl⟩) (Or.inl ⟨rfl, rfl⟩) hpa.1 hpa.2 (hs := r) σ.2.2.2.2.2.2 hb)
  · unfold f_V_commitDraft_rn
    rw [c2, ob, h2, ini_rn hn (zTr_w hz) hfc r1, ob, if_pos zn, kn]
  · rw [rcm h3 hn k1 (Or.inr ⟨p, by omega, rfl, by rw [ha]; exact c9⟩) (Or.inl ⟨m1neg, rfl⟩) hk, ob]
theorem cmt_rr (h : INV n σ ρ cm tm) (hn : n < 60) (hz : zTr ρ 65 σ.2.2.2.2.2.2.1) {b : Nat} (hb : b < 4) {p y p2 y2 : Nat} (hp : p < n) (hy : σ.2.2.1 p = some y) (hp2 : p2 < n) (hy2 : σ.2.2.1 p2 = some y2) (hne : p ≠ p2) : MK cm tm (fun q => f_V_commitDraft_rr q zT0 cm tm σ (Int32.ofNat b) y y2) (Option.bind (f_R_commit ρ (Int32.ofNat p) (Int32.ofNat p2)) (fun v152 => Option.bind (f_R_move v152.2 (Int32.ofNat b) v152.1) (fun v161 => some (v152.1, v161)))) := by
  obtain ⟨h1, h2, h3, h4, h5, h6, h7⟩ := id h
  obtain ⟨y', c, t, c1, c2, c3, c4, c5, c6, c7, c8, c9, c10, c11, c12⟩ := h7 p hp
  obtain ⟨y2', d, t2, d1, d2, d3, d4, d5, d6, d7, d8, d9, d10, d11, d12⟩ := h7 p2 hp2
  rw [hy] at c1
  obtain rfl := Option.some.inj c1
  rw [hy2] at d1
  obtain rfl := Option.some.inj d1
  have hyne : ¬ (y = y2) := fun g => by
    rw [g, d2] at c2
    obtain rfl := Option.some.inj c2
    exact hne ((n_eq (by omega) (by omega)).mp (c5.symm.trans d5))
  obtain ⟨v9, k1, k2, k3⟩ := copy_eq (a := 65) (b := n) (by decide) (by omega) hz
  have ha : v9.2.1.1.2 = ρ.2.1.1.2 := by rw [k3.1.1]
  have hh : v9.2.1.2.1.1 = ρ.2.1.2.1.1 := by rw [k3.1.1]
  have hpa := pa_bits (n := n) (pp := c.2.2.2.2.2.1) (pq := d.2.2.2.2.2.1) hn (fun k hk => by rw [c9]; exact c11 k (by omega)) (fun k hk => by rw [d9]; exact d11 k (by omega))
  have hfc := fc2
  have hk := hashOf_rr (ρ := (v9.1, ((((upd v9.2.1.1.1.1 n (Int32.ofNat p), upd v9.2.1.1.1.2 n (Int32.ofNat p2)), vp_updL v9.2.1.1.2 n (((zs_l 1 (Int32.ofNat n)) ||| c.2.2.2.2.2.1) ||| d.2.2.2.2.2.1)), v9.2.1.2), v9.2.2))) hn (show p < 60 by omega) (show p2 < 60 by omega) (upd_at _ _ _) (upd_at _ _ _)
  generalize mx (-3750763034362895579) (1 + 1) = z at hfc hk
  have hk : f_R_hashOf (v9.1, ((((upd v9.2.1.1.1.1 n (Int32.ofNat p), upd v9.2.1.1.1.2 n (Int32.ofNat p2)), vp_updL v9.2.1.1.2 n (((zs_l 1 (Int32.ofNat n)) ||| c.2.2.2.2.2.1) ||| d.2.2.2.2.2.1)), v9.2.1.2), v9.2.2)) (Int32.ofNat n) = J_R_hashOf_93 (v9.1, ((((upd v9.2.1.1.1.1 n (Int32.ofNat p), upd v9.2.1.1.1.2 n (Int32.ofNat p2)), vp_updL v9.2.1.1.2 n (((zs_l 1 (Int32.ofNat n)) ||| c.2.2.2.2.2.1) ||| d.2.2.2.2.2.1)), v9.2.1.2), v9.2.2)) (Int32.ofNat n) (mx (mx z (v9.2.1.2.1.1 p)) (v9.2.1.2.1.1 p2)) := hk
  obtain ⟨r, r1, r2⟩ := h93 (ρ := (v9.1, ((((upd v9.2.1.1.1.1 n (Int32.ofNat p), upd v9.2.1.1.1.2 n (Int32.ofNat p2)), vp_updL v9.2.1.1.2 n (((zs_l 1 (Int32.ofNat n)) ||| c.2.2.2.2.2.1) ||| d.2.2.2.2.2.1)), v9.2.1.2), v9.2.2))) hn k2 (mx (mx z (v9.2.1.2.1.1 p)) (v9.2.1.2.1.1 p2))
  rw [r2] at hk
  rw [hh, ← c10, ← d10] at r1
  have zn : zin (Int32.ofNat n) 60 := (n_zin (by omega)).mpr hn
  have kn := n_cl (show n < 2147483648 by omega)
  refine MK_congr (fun q => ?_) ?_ (MK_end h hn k2 k3 (Or.inr ⟨p, y, hp, rfl, hy, rfl⟩) (Or.inr ⟨p2, y2, hp2, rfl, hy2, rfl⟩) hpa.1 hpa.2 (hs := r) σ.2.2.2.2.2.2 hb)
  · unfold f_V_commitDraft_rr
    rw [c2, ob, d2, ob, if_pos hyne, h2, ini_rr hn (zTr_w hz) hfc r1, ob, if_pos zn, kn]
  · rw [rcm h3 hn k1 (Or.inr ⟨p, by omega, rfl, by rw [ha]; exact c9⟩) (Or.inr ⟨p2, by omega, rfl, by rw [ha]; exact d9⟩) hk, ob]
end

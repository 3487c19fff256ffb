-- COMMITS
section
variable {n : Nat} {σ : VSt} {ρ : RSt} {cm : Nat → Option ComV} {tm : Nat → Option TreeV}
theorem MK_congr {F F' : Nat × Nat → Option (Int32 × VSt × Option (ComV × TreeV))} {G G' : Option (Int32 × RSt)} (h1 : ∀ q, F q = F' q) (h2 : G = G') (h : MK cm tm F' G') : MK cm tm F G := by
  have : F = F' := funext h1
  rw [this, h2]; exact h
theorem l0_bits : ∀ k, n < k → bl 0 k = false := fun k _ => bl_0 k
theorem tm64 (hn : n < 60) : (Int32.ofNat n + 1).toInt64 = Int64.ofNat (n + 1) := by rw [n_s]; exact n_64 (by omega)
theorem fc0 : f_C_mixed (-3750763034362895579) 0 = some (mx (-3750763034362895579) (0 + 0)) := by rw [i00]; exact (mix_both _ _).1
theorem fc1 : f_C_mixed (-3750763034362895579) 1 = some (mx (-3750763034362895579) (1 + 0)) := by rw [i10]; exact (mix_both _ _).1
theorem fc2 : f_C_mixed (-3750763034362895579) 2 = some (mx (-3750763034362895579) (1 + 1)) := by rw [i11]; exact (mix_both _ _).1
theorem ini_nn (hn : n < 60) {x : TreeV} (hx : zTw x) {z : Int64} (hz : f_C_mixed (-3750763034362895579) 0 = some z) {r : Int64} (hr : f_C_hashWithTree (mx z (Int64.ofNat (n + 1))) x = some r) : f_C_init_nnr (Int32.ofNat n) x = some (Int32.ofNat n, Int32.ofNat n + 1, none, none, ((zs_l 1 (Int32.ofNat n)) ||| 0) ||| 0, r, x) := by
  unfold f_C_init_nnr f_T_init f_C_pastOf_n f_C_hashOfParents_nn
  rw [ob, become_eq hx, ob, ob, ob, hz, ob, ob, tm64 hn, (mix_both _ _).1, ob, hr, ob]
theorem ini_rn (hn : n < 60) {x : TreeV} (hx : zTw x) {c : ComV} {y : Nat} {z : Int64} (hz : f_C_mixed (-3750763034362895579) 1 = some z) {r : Int64} (hr : f_C_hashWithTree (mx (mx z c.2.2.2.2.2.2) (Int64.ofNat (n + 1))) x = some r) : f_C_init_rnr (Int32.ofNat n) y c x = some (Int32.ofNat n, Int32.ofNat n + 1, some y, none, ((zs_l 1 (Int32.ofNat n)) ||| c.2.2.2.2.2.1) ||| 0, r, x) := by
  unfold f_C_init_rnr f_T_init f_C_pastOf_n f_C_pastOf_r f_C_hashOfParents_rn
  rw [ob, become_eq hx, ob, ob, ob, hz, ob, (mix_both _ _).1, ob, ob, tm64 hn, (mix_both _ _).1, ob, hr, ob]
theorem ini_rr (hn : n < 60) {x : TreeV} (hx : zTw x) {c d : ComV} {y y2 : Nat} {z : Int64} (hz : f_C_mixed (-3750763034362895579) 2 = some z) {r : Int64} (hr : f_C_hashWithTree (mx (mx (mx z c.2.2.2.2.2.2) d.2.2.2.2.2.2) (Int64.ofNat (n + 1))) x = some r) : f_C_init_rrr (Int32.ofNat n) y y2 c d x = some (Int32.ofNat n, Int32.ofNat n + 1, some y, some y2, ((zs_l 1 (Int32.ofNat n)) ||| c.2.2.2.2.2.1) ||| d.2.2.2.2.2.1, r, x) := by
  unfold f_C_init_rrr f_T_init f_C_pastOf_r f_C_hashOfParents_rr
  rw [ob, become_eq hx, ob, ob, ob, hz, ob, (mix_both _ _).1, ob, (mix_both _ _).1, ob, ob, tm64 hn, (mix_both _ _).1, ob, hr, ob]
end

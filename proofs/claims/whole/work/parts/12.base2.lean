-- BASE 2: functions that wait for the addresses of what is made
theorem zl_p {ι : Type} {P : Prop} [Decidable P] {α : Type} {a b x : ι → α} (h : P) (e : ∀ q, (if P then a q else b q) = x q) : ∀ q, a q = x q := fun q => zi_p h (e q)
theorem zl_n {ι : Type} {P : Prop} [Decidable P] {α : Type} {a b x : ι → α} (h : ¬ P) (e : ∀ q, (if P then a q else b q) = x q) : ∀ q, b q = x q := fun q => zi_n h (e q)
theorem zl_b {ι α β : Type} {x : Option α} {k : ι → α → Option β} {v : ι → β} (q0 : ι) (h : ∀ q, Option.bind x (k q) = some (v q)) : ∃ w, x = some w ∧ ∀ q, k q w = some (v q) := by
  cases x with
  | none => cases h q0
  | some w => exact ⟨w, rfl, h⟩
theorem zl_c {ι α β : Type} {x : ι → Option α} {k : ι → α → Option β} {v : ι → β} (h : ∀ q, Option.bind (x q) (k q) = some (v q)) : ∃ w : ι → α, (∀ q, x q = some (w q)) ∧ ∀ q, k q (w q) = some (v q) :=
  ⟨fun q => (zo_b (h q)).choose, fun q => (zo_b (h q)).choose_spec.1, fun q => (zo_b (h q)).choose_spec.2⟩
theorem zl_on {ι α β : Type} {e : Option α} {a x : ι → β} {f : ι → α → β} (h : e = none) (hr : ∀ q, zo_m e (a q) (f q) = x q) : ∀ q, a q = x q := fun q => zo_n h (hr q)
theorem zl_os {ι α β : Type} {e : Option α} {a x : ι → β} {f : ι → α → β} {y : α} (h : e = some y) (hr : ∀ q, zo_m e (a q) (f q) = x q) : ∀ q, f q y = x q := fun q => zo_s h (hr q)
theorem zput_last {ws : va_W} {c0 c1 : Nat × va_E} : zput (ws ++ [c0]) [ws.length] [c1] = ws ++ [c1] := by
  simp [zput]
theorem zlast {ws : va_W} {c0 : Nat × va_E} : (ws ++ [c0])[ws.length]? = some c0 := by simp
theorem zmap_app {ws wc : va_W} {c0 : Nat × va_E} {is : List Nat} (h : is.map (fun i => ws[i]?) = wc.map some) : is.map (fun i => (ws ++ [c0])[i]?) = wc.map some := by
  rw [← h]
  apply List.map_congr_left
  intro i hi
  have h1 : ws[i]? ∈ is.map (fun i => ws[i]?) := List.mem_map_of_mem hi
  rw [h] at h1
  obtain ⟨q, -, e⟩ := List.mem_map.mp h1
  rw [List.getElem?_append_left (List.getElem?_eq_some_iff.mp e.symm).1]
theorem zmap_lt {ws wc : va_W} {is : List Nat} (h : is.map (fun i => ws[i]?) = wc.map some) : ws.length ∉ is := by
  intro hi
  have h1 : ws[ws.length]? ∈ is.map (fun i => ws[i]?) := List.mem_map_of_mem hi
  rw [h] at h1
  obtain ⟨q, -, e⟩ := List.mem_map.mp h1
  simp at e
section
variable {p : Program} {l : Launch} {e : Env} {R : Room} {s : State} {m : MethodId} {args : Array Value} {below : List Frame} {meth : Method} {c : Code} {H H0 : Heap} {locs : List Loc} {cells slots mc ms pc : Nat} {Q : State → Prop} {ls : Array Slot} {st0 rest : List Value} {a : Array Value} {D : va_G} {tys : List (ClassId × FieldType)} {ws wro : va_W} {A : Nat → Prop} {U : Type}
/-- a constructor's call on the cell that was made last; the constructor makes cells of its own -/
theorem zc_n {c0 : Nat × va_E} {c1 : U → Nat × va_E} {w1b : U → va_W} (hr : va_Run p l e R s m args below meth c H locs cells slots mc ms (F0 m pc ls st0) rest (va_Qv (fun _ : U => True) (fun u t => zwd D tys (va_A ([c0] ++ wro) H.size) ([c1 u] ++ wro ++ w1b u) t) (va_A ([c0] ++ wro) H.size) a) (va_A ([c0] ++ wro) H.size))
    (hP : va_P D vwCl (ws ++ [c0]) H) (hD : va_D A (ws ++ [c0])) (hS : va_S A H0 H locs) (hA : ∀ q, H0.size ≤ q → A q) (isR : List Nat) (hR : isR.map (fun i => ws[i]?) = wro.map some) (ha : ∀ u, (c1 u).1 = c0.1)
    (kk : ∀ (u : U) (H1 : Heap) (locs1 : List Loc), va_P D vwCl (ws ++ ([c1 u] ++ w1b u)) H1 → va_D A (ws ++ ([c1 u] ++ w1b u)) → va_S A H0 H1 locs1 → W p l e R s m args below meth c H1 locs1 (cells + mc) (slots + ms) Q (F0 m (pc + 3) ls rest)) : W p l e R s m args below meth c H locs cells slots Q (F0 m pc ls st0) := by
  have hW : ([ws.length] : List Nat).map (fun i => (ws ++ [c0])[i]?) = [c0].map some := zcons zlast znil
  have hF := zfree hD hS hA [ws.length] isR hW (zmap_app hR)
  refine va_callv hr hS (fun q _ h => hF q h) hF (fun u t H1 locs1 ht hvm hw hB hz1 hk1 hS1 => ?_)
  obtain ⟨hP1, -, hD1⟩ := hB
  rw [ht] at hP1
  obtain ⟨h1, h2⟩ := zjoin [ws.length] isR hP hD hW (zmap_app hR) (by simp [ha u]) hk1 hF hP1 hD1
  rw [zput_last, List.append_assoc] at h1 h2
  exact kk u H1 locs1 h1 h2 hS1
/-- a call that takes the whole world and may make cells -/
theorem zx_i {post : U → Int32} {ws' : U → va_W} (hr : va_Run p l e R s m args below meth c H locs cells slots mc ms (F0 m pc ls st0) rest (va_Qi (fun r (u : U) => r = post u) (fun u t => zwd D tys (va_A ws H.size) (ws' u) t) (va_A ws H.size) a) (va_A ws H.size))
    (hD : va_D A ws) (hS : va_S A H0 H locs) (hA : ∀ q, H0.size ≤ q → A q)
    (kk : ∀ (u : U) (H1 : Heap) (locs1 : List Loc), va_P D vwCl (ws' u) H1 → va_D A (ws' u) → va_S A H0 H1 locs1 → W p l e R s m args below meth c H1 locs1 (cells + mc) (slots + ms) Q (F0 m (pc + 3) ls (.int (post u) :: rest))) : W p l e R s m args below meth c H locs cells slots Q (F0 m pc ls st0) := by
  have hF := zfreeW hD hS hA
  refine va_calli hr hS (fun q _ h => hF q h) hF (fun r u t H1 locs1 ht hvm hw hB hz1 hk1 hS1 => ?_)
  obtain ⟨hP1, -, hD1⟩ := hB
  rw [ht] at hP1
  subst hw
  exact kk u H1 locs1 hP1 (hD1.weaken (fun _ q _ h => hF q.1 h)) hS1
end
theorem zrw_n {D : va_G} {tys : List (ClassId × FieldType)} {A : Nat → Prop} {ws wro : va_W} {c0 : Nat × va_E} {H : Heap} {s : State} (hP : va_P D vwCl (ws ++ [c0]) H) (hD : va_D A (ws ++ [c0])) (hK : va_K D vwCl tys s) (hN : zNw s) (isR : List Nat)
    (hR : isR.map (fun i => ws[i]?) = wro.map some) (hn : va_nd isR = true) (av : List Value) : ∀ U : State, U.heap = H → s.WarmedH U.vm → va_Pc av (zrw D tys H.size ([c0] ++ wro)) av.toArray U := by
  refine zrw_p hP hD hK hN [ws.length] isR (zcons zlast znil) (zmap_app hR) ?_ av
  show va_nd (ws.length :: isR) = true
  simp [va_nd, hn, zmap_lt hR]
theorem zpool_app {pl x : va_W} {cm : Nat → Option ComV} {tm : Nat → Option TreeV} (h : zpool pl cm tm) : zpool (pl ++ x) cm tm :=
  ⟨fun y c hc => let ⟨k, hk⟩ := h.1 y c hc; ⟨k, by rw [List.getElem?_append_left (List.getElem?_eq_some_iff.mp hk).1]; exact hk⟩, fun y c hc => let ⟨k, hk⟩ := h.2 y c hc; ⟨k, by rw [List.getElem?_append_left (List.getElem?_eq_some_iff.mp hk).1]; exact hk⟩⟩
/-- the pool behind a call that may have made a commit and its tree -/
def zpn (pl : va_W) (u : Nat × Nat) (o : Option (ComV × TreeV)) : va_W := match o with
  | none => pl
  | some w => pl ++ [(u.1, zcC w.1), (u.2, zcT w.2)]
theorem zl2 {pl : va_W} {c t : Nat × va_E} : (pl ++ [c, t])[pl.length]? = some c := by simp
section
variable {p : Program} {l : Launch} {e : Env} {R : Room} {s : State} {m : MethodId} {args : Array Value} {below : List Frame} {meth : Method} {c : Code} {H H0 : Heap} {locs : List Loc} {cells slots mc ms pc : Nat} {Q : State → Prop} {ls : Array Slot} {st0 rest : List Value} {a : Array Value} {D : va_G} {ws : va_W} {A : Nat → Prop} {U : Type}
/-- a constructor's call on the cell that was made last; it makes arrays -/
theorem zc_k {c0 : Nat × va_E} {c1 : U → Nat × va_E} {w1b : U → va_W} {tys1 : U → List (ClassId × FieldType)} (hr : va_Run p l e R s m args below meth c H locs cells slots mc ms (F0 m pc ls st0) rest (va_Qv (fun _ : U => True) (fun u t => zwd D (tys1 u) (va_A ([c0] ++ []) H.size) ([c1 u] ++ [] ++ w1b u) t) (va_A ([c0] ++ []) H.size) a) (va_A ([c0] ++ []) H.size))
    (hP : va_P D vwCl (ws ++ [c0]) H) (hD : va_D A (ws ++ [c0])) (hS : va_S A H0 H locs) (hA : ∀ q, H0.size ≤ q → A q) (ha : ∀ u, (c1 u).1 = c0.1)
    (kk : ∀ (u : U) (H1 : Heap) (locs1 : List Loc), va_K D vwCl (tys1 u) s → va_P D vwCl (ws ++ ([c1 u] ++ w1b u)) H1 → va_D A (ws ++ ([c1 u] ++ w1b u)) → va_S A H0 H1 locs1 → W p l e R s m args below meth c H1 locs1 (cells + mc) (slots + ms) Q (F0 m (pc + 3) ls rest)) : W p l e R s m args below meth c H locs cells slots Q (F0 m pc ls st0) := by
  have hW : ([ws.length] : List Nat).map (fun i => (ws ++ [c0])[i]?) = [c0].map some := zcons zlast znil
  have hR : ([] : List Nat).map (fun i => (ws ++ [c0])[i]?) = ([] : va_W).map some := rfl
  have hF := zfree hD hS hA [ws.length] [] hW hR
  refine va_callv hr hS (fun q _ h => hF q h) hF (fun u t H1 locs1 ht hvm hw hB hz1 hk1 hS1 => ?_)
  obtain ⟨hP1, hK1, hD1⟩ := hB
  rw [ht] at hP1
  obtain ⟨h1, h2⟩ := zjoin [ws.length] [] hP hD hW hR (by simp [ha u]) hk1 hF hP1 hD1
  rw [zput_last, List.append_assoc] at h1 h2
  exact kk u H1 locs1 (va_K.moved hvm.symm hK1) h1 h2 hS1
end

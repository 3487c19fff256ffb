-- BASE: the words in which the printed functions speak, and the call rows of read-only methods
def zfuel : Nat := 1000000000
def zo_m {α β : Type} (e : Option α) (a : β) (f : α → β) : β := match e with
  | none => a
  | some y => f y
def zs_m {α β γ : Type} (w : α ⊕ β) (f : α → γ) (g : β → γ) : γ := match w with
  | .inl a => f a
  | .inr b => g b
theorem zi_p {P : Prop} [Decidable P] {α : Type} {a b x : α} (h : P) (e : (if P then a else b) = x) : a = x := by
  rw [if_pos h] at e; exact e
theorem zi_n {P : Prop} [Decidable P] {α : Type} {a b x : α} (h : ¬ P) (e : (if P then a else b) = x) : b = x := by
  rw [if_neg h] at e; exact e
theorem zo_b {α β : Type} {x : Option α} {k : α → Option β} {v : β} (h : Option.bind x k = some v) : ∃ w, x = some w ∧ k w = some v := by
  cases x with
  | none => cases h
  | some w => exact ⟨w, rfl, h⟩
theorem zo_n {α β : Type} {e : Option α} {a x : β} {f : α → β} (h : e = none) (hr : zo_m e a f = x) : a = x := by
  rw [h] at hr; exact hr
theorem zo_s {α β : Type} {e : Option α} {a x : β} {f : α → β} {y : α} (h : e = some y) (hr : zo_m e a f = x) : f y = x := by
  rw [h] at hr; exact hr
theorem zs_r {α β γ : Type} {f : α → γ} {g : β → γ} {u : β} {x : γ} (hr : zs_m (Sum.inr u) f g = x) : g u = x := hr
def zu_i (x y : Int32) : Int32 := (x.toUInt32 >>> (y.toUInt32 &&& Int32.toUInt32 31)).toInt32
def zu_l (x : Int64) (y : Int32) : Int64 := (x.toUInt64 >>> (y.toInt64.toUInt64 &&& Int64.toUInt64 63)).toInt64
def zs_l (x : Int64) (y : Int32) : Int64 := x <<< (y.toInt64 &&& 63)
def zr_l (x : Int64) (y : Int32) : Int64 := x >>> (y.toInt64 &&& 63)
abbrev zb_z (v : Int32) : Prop := v = 0 ∨ v = 1
theorem zb_n {v : Int32} (h : zb_z v) : narrow .boolean (.int v) = .int v := by
  rcases h with rfl | rfl <;> rfl
theorem zb_f {v : Int32} (h : zb_z v) : fits .boolean (.int v) = true := by
  rcases h with rfl | rfl <;> rfl
/-- the start of a read-only method: the cells ws are held -/
def zro (D : va_G) (tys : List (ClassId × FieldType)) (ws : va_W) (U : State) : Prop := va_P D vwCl ws U.heap ∧ va_K D vwCl tys U ∧ zNw U
theorem zro_b {D : va_G} {tys : List (ClassId × FieldType)} {ws : va_W} (av : List Value) : FrameBlind (va_Pc av (zro D tys ws)) :=
  fun a U g mk q => ⟨q.1, q.2.1, va_K.moved (u := U) (U := U.calling g mk a) (Vm.Alike.refl U.vm) q.2.2.1, zNw_s (u := U) (U := U.calling g mk a) rfl q.2.2.2⟩
theorem zro_p {D : va_G} {tys : List (ClassId × FieldType)} {ws : va_W} {H : Heap} {s : State} (hP : va_P D vwCl ws H) (hK : va_K D vwCl tys s) (hN : zNw s) (av : List Value) : ∀ U : State, U.heap = H → s.WarmedH U.vm → va_Pc av (zro D tys ws) av.toArray U :=
  fun U hU hW => ⟨rfl, by rw [hU]; exact hP, va_K.moved hW.alike hK, zNw_w hW hN⟩
theorem va_Pnil {D : va_G} {H : Heap} : va_P D vwCl [] H := fun k q h => by simp at h
-- ===== writing methods: the frame rule over a list of cells of any form =====
/-- the places is take the cells xs -/
def zput : va_W → List Nat → va_W → va_W
  | ws, [], _ => ws
  | ws, _ :: _, [] => ws
  | ws, i :: is, x :: xs => zput (ws.set i x) is xs
theorem zput_get : ∀ (is : List Nat) (xs ws : va_W) (k : Nat) (q : Nat × va_E), is.length = xs.length → (zput ws is xs)[k]? = some q → q ∈ xs ∨ (ws[k]? = some q ∧ k ∉ is) := by
  intro is
  induction is with
  | nil => intro xs ws k q _ h; exact Or.inr ⟨by simpa [zput] using h, by simp⟩
  | cons i is ih =>
    intro xs ws k q hl h
    cases xs with
    | nil => simp at hl
    | cons x xs =>
      rcases ih xs (ws.set i x) k q (by simpa using hl) h with h1 | ⟨h1, h2⟩
      · exact Or.inl (List.mem_cons_of_mem _ h1)
      · by_cases e : i = k
        · subst e
          rw [List.getElem?_set] at h1
          split at h1
          · split at h1
            · cases h1; exact Or.inl List.mem_cons_self
            · cases h1
          · contradiction
        · rw [List.getElem?_set_ne e] at h1
          exact Or.inr ⟨h1, by simp only [List.mem_cons, not_or]; exact ⟨fun h => e h.symm, h2⟩⟩
theorem zset_fst {ws : va_W} {i : Nat} {x : Nat × va_E} (h : (ws.map Prod.fst)[i]? = some x.1) : (ws.set i x).map Prod.fst = ws.map Prod.fst := by
  rw [List.map_set]
  apply List.ext_getElem?
  intro k
  by_cases e : i = k
  · subst e
    rw [List.getElem?_set, h]
    obtain ⟨hlt, -⟩ := List.getElem?_eq_some_iff.mp h
    simpa using hlt
  · rw [List.getElem?_set_ne e]
theorem zput_fst : ∀ (is : List Nat) (xs ws : va_W), is.map (fun i => (ws.map Prod.fst)[i]?) = xs.map (fun x => some x.1) → (zput ws is xs).map Prod.fst = ws.map Prod.fst := by
  intro is
  induction is with
  | nil => intro xs ws _; simp [zput]
  | cons i is ih =>
    intro xs ws h
    cases xs with
    | nil => simp at h
    | cons x xs =>
      simp only [List.map_cons, List.cons.injEq] at h
      have e := zset_fst h.1
      show (zput (ws.set i x) is xs).map Prod.fst = _
      rw [ih xs (ws.set i x) (by rw [e]; exact h.2), e]
theorem zfst_get {ws ws' : va_W} (h : ws'.map Prod.fst = ws.map Prod.fst) {k : Nat} {q : Nat × va_E} (hk : ws'[k]? = some q) : ∃ p, ws[k]? = some p ∧ p.1 = q.1 := by
  have h1 : (ws'.map Prod.fst)[k]? = some q.1 := by rw [List.getElem?_map, hk]; rfl
  rw [h, List.getElem?_map] at h1
  cases hp : ws[k]? with
  | none => rw [hp] at h1; cases h1
  | some p => rw [hp] at h1; exact ⟨p, rfl, Option.some.inj h1⟩
theorem zmap_mem {ws wc : va_W} {is : List Nat} (h : is.map (fun i => ws[i]?) = wc.map some) : ∀ q ∈ wc, ∃ i ∈ is, ws[i]? = some q := by
  intro q hq
  have h1 : some q ∈ wc.map some := List.mem_map_of_mem hq
  rw [← h] at h1
  obtain ⟨i, hi, e⟩ := List.mem_map.mp h1
  exact ⟨i, hi, e⟩
theorem zjoin {A : Nat → Prop} {D : va_G} {cl : List vw_C} {ws wcw wro w1w w1b : va_W} {H H1 : Heap} (isW isR : List Nat) (hP : va_P D cl ws H) (hD : va_D A ws)
    (hW : isW.map (fun i => ws[i]?) = wcw.map some) (hR : isR.map (fun i => ws[i]?) = wro.map some) (ha : w1w.map Prod.fst = wcw.map Prod.fst)
    (hk : ∀ q : Nat, q < H.size → ¬ va_A (wcw ++ wro) H.size q → H1[q]? = H[q]?) (hF : ∀ q, va_A (wcw ++ wro) H.size q → A q)
    (hP1 : va_P D cl (w1w ++ wro ++ w1b) H1) (hD1 : va_D (va_A (wcw ++ wro) H.size) (w1w ++ wro ++ w1b)) :
    va_P D cl (zput ws isW w1w ++ w1b) H1 ∧ va_D A (zput ws isW w1w ++ w1b) := by
  have hl1 : isW.length = wcw.length := by simpa using congrArg List.length hW
  have hl2 : w1w.length = wcw.length := by simpa using congrArg List.length ha
  have mem1 : ∀ q, q ∈ w1w ++ wro ++ w1b → va_at D cl q H1 := fun q hq => by
    obtain ⟨k, hk⟩ := List.getElem?_of_mem hq
    exact hP1 k q hk
  have hfst : (zput ws isW w1w).map Prod.fst = ws.map Prod.fst := by
    apply zput_fst
    have e1 : isW.map (fun i => (ws.map Prod.fst)[i]?) = (isW.map (fun i => ws[i]?)).map (Option.map Prod.fst) := by
      rw [List.map_map]; apply List.map_congr_left; intro i _; simp
    have e2 : w1w.map (fun x => some x.1) = (w1w.map Prod.fst).map some := by rw [List.map_map]; rfl
    rw [e1, hW, e2, ha, List.map_map, List.map_map]
    rfl
  have hlen : (zput ws isW w1w).length = ws.length := by simpa using congrArg List.length hfst
  refine ⟨fun k q hkq => ?_, fun i j p q hi hj hpq => ?_, fun k q hkq => ?_⟩
  · rw [List.getElem?_append] at hkq
    split at hkq
    · rcases zput_get isW w1w ws k q (by omega) hkq with h | ⟨h1, h2⟩
      · exact mem1 q (by simp [h])
      · by_cases hr : q ∈ wro
        · exact mem1 q (by simp [hr])
        · refine (hP k q h1).kept (hk q.1 (hP k q h1).lt ?_)
          rintro (⟨j, e, hj⟩ | hge)
          · rcases List.mem_append.mp (List.mem_of_getElem? hj) with hm | hm
            · obtain ⟨i, hi, hi2⟩ := zmap_mem hW _ hm
              have := hD.1 k i q (q.1, e) h1 hi2 rfl
              subst this
              exact h2 hi
            · obtain ⟨i, hi, hi2⟩ := zmap_mem hR _ hm
              have := hD.1 k i q (q.1, e) h1 hi2 rfl
              subst this
              rw [h1] at hi2
              rw [Option.some.inj hi2] at hr
              exact hr hm
          · exact absurd hge (Nat.not_le.mpr (hP k q h1).lt)
    · exact mem1 q (by simp [List.mem_of_getElem? hkq])
  · have key : ∀ (i j : Nat) (p q : Nat × va_E), (zput ws isW w1w)[i]? = some p → w1b[j]? = some q → p.1 ≠ q.1 := by
      intro i j p q hi hj e
      obtain ⟨p', hp', ep⟩ := zfst_get hfst hi
      have hlt : q.1 < H.size := by rw [← e, ← ep]; exact (hP i p' hp').lt
      have hq3 : (w1w ++ wro ++ w1b)[(w1w ++ wro).length + j]? = some q := by
        rw [List.getElem?_append_right (by omega)]; simpa using hj
      rcases hD1.2 _ q hq3 with ⟨t, e2, ht⟩ | hge
      · have htl : t < (wcw ++ wro).length := (List.getElem?_eq_some_iff.mp ht).1
        have hf2 : (w1w ++ wro).map Prod.fst = (wcw ++ wro).map Prod.fst := by rw [List.map_append, List.map_append, ha]
        obtain ⟨p2, hp2, ep2⟩ := zfst_get hf2.symm ht
        have hp3 : (w1w ++ wro ++ w1b)[t]? = some p2 := by
          rw [List.getElem?_append_left (List.getElem?_eq_some_iff.mp hp2).1]; exact hp2
        have := hD1.1 t _ p2 q hp3 hq3 ep2
        simp only [List.length_append] at this htl
        omega
      · omega
    rw [List.getElem?_append] at hi hj
    split at hi
    · split at hj
      · obtain ⟨p', hp', ep⟩ := zfst_get hfst hi
        obtain ⟨q', hq', eq⟩ := zfst_get hfst hj
        exact hD.1 i j p' q' hp' hq' (by rw [ep, eq, hpq])
      · exact absurd hpq (key i _ p q hi hj)
    · split at hj
      · exact absurd hpq.symm (key j _ q p hj hi)
      · have h1 : (w1w ++ wro ++ w1b)[(w1w ++ wro).length + (i - (zput ws isW w1w).length)]? = some p := by
          rw [List.getElem?_append_right (by omega)]; simpa using hi
        have h2 : (w1w ++ wro ++ w1b)[(w1w ++ wro).length + (j - (zput ws isW w1w).length)]? = some q := by
          rw [List.getElem?_append_right (by omega)]; simpa using hj
        have := hD1.1 _ _ p q h1 h2 hpq
        omega
  · rw [List.getElem?_append] at hkq
    split at hkq
    · obtain ⟨p', hp', ep⟩ := zfst_get hfst hkq
      rw [← ep]
      exact hD.2 k p' hp'
    · have h1 : (w1w ++ wro ++ w1b)[(w1w ++ wro).length + (k - (zput ws isW w1w).length)]? = some q := by
        rw [List.getElem?_append_right (by omega)]; simpa using hkq
      exact hF q.1 (hD1.2 _ q h1)
theorem zfree {A : Nat → Prop} {ws wcw wro : va_W} {H0 H : Heap} {locs : List Loc} (hD : va_D A ws) (hS : va_S A H0 H locs) (hA : ∀ q, H0.size ≤ q → A q) (isW isR : List Nat)
    (hW : isW.map (fun i => ws[i]?) = wcw.map some) (hR : isR.map (fun i => ws[i]?) = wro.map some) : ∀ q, va_A (wcw ++ wro) H.size q → A q := by
  rintro q (⟨k, e, hk⟩ | h)
  · rcases List.mem_append.mp (List.mem_of_getElem? hk) with hm | hm
    · obtain ⟨i, -, hi⟩ := zmap_mem hW _ hm
      exact hD.2 i _ hi
    · obtain ⟨i, -, hi⟩ := zmap_mem hR _ hm
      exact hD.2 i _ hi
  · exact hA q (Nat.le_trans hS.1 h)
/-- the world behind a writing method -/
def zwd (D : va_G) (tys : List (ClassId × FieldType)) (A : Nat → Prop) (ws : va_W) (t : State) : Prop := va_P D vwCl ws t.heap ∧ va_K D vwCl tys t ∧ va_D A ws
/-- its start -/
def zrw (D : va_G) (tys : List (ClassId × FieldType)) (sz : Nat) (ws : va_W) (U : State) : Prop := U.heap.size = sz ∧ va_P D vwCl ws U.heap ∧ va_K D vwCl tys U ∧ va_D (fun _ => True) ws ∧ zNw U
theorem zrw_b {D : va_G} {tys : List (ClassId × FieldType)} {sz : Nat} {ws : va_W} (av : List Value) : FrameBlind (va_Pc av (zrw D tys sz ws)) :=
  fun a U g mk q => ⟨q.1, q.2.1, q.2.2.1, va_K.moved (u := U) (U := U.calling g mk a) (Vm.Alike.refl U.vm) q.2.2.2.1, q.2.2.2.2.1, zNw_s (u := U) (U := U.calling g mk a) rfl q.2.2.2.2.2⟩
theorem zsubP {D : va_G} {cl : List vw_C} {ws wc : va_W} {H : Heap} (hP : va_P D cl ws H) {is : List Nat} (h : is.map (fun i => ws[i]?) = wc.map some) : va_P D cl wc H := by
  intro k q hk
  obtain ⟨i, -, hi⟩ := zmap_mem h q (List.mem_of_getElem? hk)
  exact hP i q hi
theorem zsub2 {ws w1 w2 : va_W} {i1 i2 : List Nat} (h1 : i1.map (fun i => ws[i]?) = w1.map some) (h2 : i2.map (fun i => ws[i]?) = w2.map some) : (i1 ++ i2).map (fun i => ws[i]?) = (w1 ++ w2).map some := by
  rw [List.map_append, List.map_append, h1, h2]
theorem zrw_p {D : va_G} {tys : List (ClassId × FieldType)} {A : Nat → Prop} {ws wcw wro : va_W} {H : Heap} {s : State} (hP : va_P D vwCl ws H) (hD : va_D A ws) (hK : va_K D vwCl tys s) (hN : zNw s) (isW isR : List Nat)
    (hW : isW.map (fun i => ws[i]?) = wcw.map some) (hR : isR.map (fun i => ws[i]?) = wro.map some) (hn : va_nd (isW ++ isR) = true) (av : List Value) : ∀ U : State, U.heap = H → s.WarmedH U.vm → va_Pc av (zrw D tys H.size (wcw ++ wro)) av.toArray U :=
  fun U hU hW' => ⟨rfl, by rw [hU], by rw [hU]; exact zsubP hP (zsub2 hW hR), va_K.moved hW'.alike hK, (hD.sub (isW ++ isR) hn (zsub2 hW hR)).weaken (fun _ _ _ _ => trivial), zNw_w hW' hN⟩
section
variable {p : Program} {l : Launch} {e : Env} {R : Room} {s : State} {m : MethodId} {args : Array Value} {below : List Frame} {meth : Method} {c : Code} {H H0 : Heap} {locs : List Loc} {cells slots mc ms pc : Nat} {Q : State → Prop} {ls : Array Slot} {st0 rest : List Value} {a : Array Value} {D : va_G} {tys : List (ClassId × FieldType)} {ws wcw wro w1w w1b : va_W} {A : Nat → Prop}
theorem zc_v (hr : va_Run p l e R s m args below meth c H locs cells slots mc ms (F0 m pc ls st0) rest (va_Qv (fun _ : Unit => True) (fun _ t => zwd D tys (va_A (wcw ++ wro) H.size) (w1w ++ wro ++ w1b) t) (va_A (wcw ++ wro) H.size) a) (va_A (wcw ++ wro) H.size))
    (hP : va_P D vwCl ws H) (hD : va_D A ws) (hS : va_S A H0 H locs) (hA : ∀ q, H0.size ≤ q → A q) (isW isR : List Nat) (hW : isW.map (fun i => ws[i]?) = wcw.map some) (hR : isR.map (fun i => ws[i]?) = wro.map some) (ha : w1w.map Prod.fst = wcw.map Prod.fst)
    (kk : ∀ (H1 : Heap) (locs1 : List Loc), va_P D vwCl (zput ws isW w1w ++ w1b) H1 → va_D A (zput ws isW w1w ++ w1b) → va_S A H0 H1 locs1 → W p l e R s m args below meth c H1 locs1 (cells + mc) (slots + ms) Q (F0 m (pc + 3) ls rest)) : W p l e R s m args below meth c H locs cells slots Q (F0 m pc ls st0) := by
  have hF := zfree hD hS hA isW isR hW hR
  refine va_callv hr hS (fun q _ h => hF q h) hF (fun u t H1 locs1 ht hvm hw hB hz1 hk1 hS1 => ?_)
  obtain ⟨hP1, -, hD1⟩ := hB
  rw [ht] at hP1
  obtain ⟨h1, h2⟩ := zjoin isW isR hP hD hW hR ha hk1 hF hP1 hD1
  exact kk H1 locs1 h1 h2 hS1
theorem zc_i {v : Int32} (hr : va_Run p l e R s m args below meth c H locs cells slots mc ms (F0 m pc ls st0) rest (va_Qi (fun r (_ : Unit) => r = v) (fun _ t => zwd D tys (va_A (wcw ++ wro) H.size) (w1w ++ wro ++ w1b) t) (va_A (wcw ++ wro) H.size) a) (va_A (wcw ++ wro) H.size))
    (hP : va_P D vwCl ws H) (hD : va_D A ws) (hS : va_S A H0 H locs) (hA : ∀ q, H0.size ≤ q → A q) (isW isR : List Nat) (hW : isW.map (fun i => ws[i]?) = wcw.map some) (hR : isR.map (fun i => ws[i]?) = wro.map some) (ha : w1w.map Prod.fst = wcw.map Prod.fst)
    (kk : ∀ (H1 : Heap) (locs1 : List Loc), va_P D vwCl (zput ws isW w1w ++ w1b) H1 → va_D A (zput ws isW w1w ++ w1b) → va_S A H0 H1 locs1 → W p l e R s m args below meth c H1 locs1 (cells + mc) (slots + ms) Q (F0 m (pc + 3) ls (.int v :: rest))) : W p l e R s m args below meth c H locs cells slots Q (F0 m pc ls st0) := by
  have hF := zfree hD hS hA isW isR hW hR
  refine va_calli hr hS (fun q _ h => hF q h) hF (fun r u t H1 locs1 ht hvm hw hB hz1 hk1 hS1 => ?_)
  obtain ⟨hP1, -, hD1⟩ := hB
  rw [ht] at hP1
  obtain ⟨h1, h2⟩ := zjoin isW isR hP hD hW hR ha hk1 hF hP1 hD1
  subst hw
  exact kk H1 locs1 h1 h2 hS1
theorem zc_l {v : Int64} (hr : va_Run p l e R s m args below meth c H locs cells slots mc ms (F0 m pc ls st0) rest (va_Ql (fun r (_ : Unit) => r = v) (fun _ t => zwd D tys (va_A (wcw ++ wro) H.size) (w1w ++ wro ++ w1b) t) (va_A (wcw ++ wro) H.size) a) (va_A (wcw ++ wro) H.size))
    (hP : va_P D vwCl ws H) (hD : va_D A ws) (hS : va_S A H0 H locs) (hA : ∀ q, H0.size ≤ q → A q) (isW isR : List Nat) (hW : isW.map (fun i => ws[i]?) = wcw.map some) (hR : isR.map (fun i => ws[i]?) = wro.map some) (ha : w1w.map Prod.fst = wcw.map Prod.fst)
    (kk : ∀ (H1 : Heap) (locs1 : List Loc), va_P D vwCl (zput ws isW w1w ++ w1b) H1 → va_D A (zput ws isW w1w ++ w1b) → va_S A H0 H1 locs1 → W p l e R s m args below meth c H1 locs1 (cells + mc) (slots + ms) Q (F0 m (pc + 3) ls (.long v :: rest))) : W p l e R s m args below meth c H locs cells slots Q (F0 m pc ls st0) := by
  have hF := zfree hD hS hA isW isR hW hR
  refine va_calll hr hS (fun q _ h => hF q h) hF (fun r u t H1 locs1 ht hvm hw hB hz1 hk1 hS1 => ?_)
  obtain ⟨hP1, -, hD1⟩ := hB
  rw [ht] at hP1
  obtain ⟨h1, h2⟩ := zjoin isW isR hP hD hW hR ha hk1 hF hP1 hD1
  subst hw
  exact kk H1 locs1 h1 h2 hS1
end
theorem znil {ws : va_W} : ([] : List Nat).map (fun i => ws[i]?) = ([] : va_W).map some := rfl
theorem zcons {ws wc : va_W} {i : Nat} {is : List Nat} {c : Nat × va_E} (h : ws[i]? = some c) (t : is.map (fun i => ws[i]?) = wc.map some) : (i :: is).map (fun i => ws[i]?) = (c :: wc).map some := by
  rw [List.map_cons, List.map_cons, h, t]
theorem zpl_get {X pl : va_W} {k : Nat} {q : Nat × va_E} (h : pl[k]? = some q) : (X ++ pl)[X.length + k]? = some q := by
  rw [List.getElem?_append_right (by omega)]; simpa using h
section
variable {p : Program} {l : Launch} {e : Env} {R : Room} {s : State} {m : MethodId} {args : Array Value} {below : List Frame} {meth : Method} {c : Code} {H H0 : Heap} {locs : List Loc} {cells slots pc : Nat} {Q : State → Prop} {ls : Array Slot} {st0 rest : List Value} {a : Array Value} {D : va_G} {tys : List (ClassId × FieldType)} {ws wcw wro w1w : va_W} {A : Nat → Prop}
/-- a call that writes the cells at isW, reads those at isR, and makes none -/
theorem zd_v (hr : va_Run p l e R s m args below meth c H locs cells slots 0 0 (F0 m pc ls st0) rest (va_Qv (fun _ : Unit => True) (fun _ t => zwd D tys (va_A (wcw ++ wro) H.size) (w1w ++ wro) t) (va_A (wcw ++ wro) H.size) a) (va_A (wcw ++ wro) H.size))
    (hP : va_P D vwCl ws H) (hD : va_D A ws) (hS : va_S A H0 H locs) (hA : ∀ q, H0.size ≤ q → A q) (isW isR : List Nat) (hW : isW.map (fun i => ws[i]?) = wcw.map some) (hR : isR.map (fun i => ws[i]?) = wro.map some) (ha : w1w.map Prod.fst = wcw.map Prod.fst)
    (kk : ∀ (H1 : Heap) (locs1 : List Loc), va_P D vwCl (zput ws isW w1w) H1 → va_D A (zput ws isW w1w) → va_S A H0 H1 locs1 → W p l e R s m args below meth c H1 locs1 cells slots Q (F0 m (pc + 3) ls rest)) : W p l e R s m args below meth c H locs cells slots Q (F0 m pc ls st0) := by
  refine zc_v (w1b := []) (by simpa using hr) hP hD hS hA isW isR hW hR ha (fun H1 locs1 h1 h2 h3 => ?_)
  rw [List.append_nil] at h1 h2
  exact kk H1 locs1 h1 h2 h3
theorem zd_i {v : Int32} (hr : va_Run p l e R s m args below meth c H locs cells slots 0 0 (F0 m pc ls st0) rest (va_Qi (fun r (_ : Unit) => r = v) (fun _ t => zwd D tys (va_A (wcw ++ wro) H.size) (w1w ++ wro) t) (va_A (wcw ++ wro) H.size) a) (va_A (wcw ++ wro) H.size))
    (hP : va_P D vwCl ws H) (hD : va_D A ws) (hS : va_S A H0 H locs) (hA : ∀ q, H0.size ≤ q → A q) (isW isR : List Nat) (hW : isW.map (fun i => ws[i]?) = wcw.map some) (hR : isR.map (fun i => ws[i]?) = wro.map some) (ha : w1w.map Prod.fst = wcw.map Prod.fst)
    (kk : ∀ (H1 : Heap) (locs1 : List Loc), va_P D vwCl (zput ws isW w1w) H1 → va_D A (zput ws isW w1w) → va_S A H0 H1 locs1 → W p l e R s m args below meth c H1 locs1 cells slots Q (F0 m (pc + 3) ls (.int v :: rest))) : W p l e R s m args below meth c H locs cells slots Q (F0 m pc ls st0) := by
  refine zc_i (w1b := []) (by simpa using hr) hP hD hS hA isW isR hW hR ha (fun H1 locs1 h1 h2 h3 => ?_)
  rw [List.append_nil] at h1 h2
  exact kk H1 locs1 h1 h2 h3
theorem zd_l {v : Int64} (hr : va_Run p l e R s m args below meth c H locs cells slots 0 0 (F0 m pc ls st0) rest (va_Ql (fun r (_ : Unit) => r = v) (fun _ t => zwd D tys (va_A (wcw ++ wro) H.size) (w1w ++ wro) t) (va_A (wcw ++ wro) H.size) a) (va_A (wcw ++ wro) H.size))
    (hP : va_P D vwCl ws H) (hD : va_D A ws) (hS : va_S A H0 H locs) (hA : ∀ q, H0.size ≤ q → A q) (isW isR : List Nat) (hW : isW.map (fun i => ws[i]?) = wcw.map some) (hR : isR.map (fun i => ws[i]?) = wro.map some) (ha : w1w.map Prod.fst = wcw.map Prod.fst)
    (kk : ∀ (H1 : Heap) (locs1 : List Loc), va_P D vwCl (zput ws isW w1w) H1 → va_D A (zput ws isW w1w) → va_S A H0 H1 locs1 → W p l e R s m args below meth c H1 locs1 cells slots Q (F0 m (pc + 3) ls (.long v :: rest))) : W p l e R s m args below meth c H locs cells slots Q (F0 m pc ls st0) := by
  refine zc_l (w1b := []) (by simpa using hr) hP hD hS hA isW isR hW hR ha (fun H1 locs1 h1 h2 h3 => ?_)
  rw [List.append_nil] at h1 h2
  exact kk H1 locs1 h1 h2 h3
end
/-- an index in range, as a proposition that is decided -/
abbrev zin (i : Int32) (n : Nat) : Prop := ¬ (i < 0 ∨ n ≤ i.toNatClampNeg)
section
variable {p : Program} {l : Launch} {e : Env} {R : Room} {s : State} {m : MethodId} {args : Array Value} {below : List Frame} {meth : Method} {c : Code} {H H0 : Heap} {locs : List Loc} {cells slots mc ms pc : Nat} {Q : State → Prop} {ls : Array Slot} {st0 rest : List Value} {a : Array Value} {D : va_G} {tys : List (ClassId × FieldType)} {ws ws' : va_W} {A : Nat → Prop}
theorem zfreeW (hD : va_D A ws) (hS : va_S A H0 H locs) (hA : ∀ q, H0.size ≤ q → A q) : ∀ q, va_A ws H.size q → A q := by
  rintro q (⟨k, e, hk⟩ | h)
  · exact hD.2 k _ hk
  · exact hA q (Nat.le_trans hS.1 h)
/-- a call that takes the whole world -/
theorem zw_v (hr : va_Run p l e R s m args below meth c H locs cells slots mc ms (F0 m pc ls st0) rest (va_Qv (fun _ : Unit => True) (fun _ t => zwd D tys (va_A ws H.size) ws' t) (va_A ws H.size) a) (va_A ws H.size))
    (hD : va_D A ws) (hS : va_S A H0 H locs) (hA : ∀ q, H0.size ≤ q → A q)
    (kk : ∀ (H1 : Heap) (locs1 : List Loc), va_P D vwCl ws' H1 → va_D A ws' → va_S A H0 H1 locs1 → W p l e R s m args below meth c H1 locs1 (cells + mc) (slots + ms) Q (F0 m (pc + 3) ls rest)) : W p l e R s m args below meth c H locs cells slots Q (F0 m pc ls st0) := by
  have hF := zfreeW hD hS hA
  refine va_callv hr hS (fun q _ h => hF q h) hF (fun u t H1 locs1 ht hvm hw hB hz1 hk1 hS1 => ?_)
  obtain ⟨hP1, -, hD1⟩ := hB
  rw [ht] at hP1
  exact kk H1 locs1 hP1 (hD1.weaken (fun _ q _ h => hF q.1 h)) hS1
theorem zw_i {v : Int32} (hr : va_Run p l e R s m args below meth c H locs cells slots mc ms (F0 m pc ls st0) rest (va_Qi (fun r (_ : Unit) => r = v) (fun _ t => zwd D tys (va_A ws H.size) ws' t) (va_A ws H.size) a) (va_A ws H.size))
    (hD : va_D A ws) (hS : va_S A H0 H locs) (hA : ∀ q, H0.size ≤ q → A q)
    (kk : ∀ (H1 : Heap) (locs1 : List Loc), va_P D vwCl ws' H1 → va_D A ws' → va_S A H0 H1 locs1 → W p l e R s m args below meth c H1 locs1 (cells + mc) (slots + ms) Q (F0 m (pc + 3) ls (.int v :: rest))) : W p l e R s m args below meth c H locs cells slots Q (F0 m pc ls st0) := by
  have hF := zfreeW hD hS hA
  refine va_calli hr hS (fun q _ h => hF q h) hF (fun r u t H1 locs1 ht hvm hw hB hz1 hk1 hS1 => ?_)
  obtain ⟨hP1, -, hD1⟩ := hB
  rw [ht] at hP1
  subst hw
  exact kk H1 locs1 hP1 (hD1.weaken (fun _ q _ h => hF q.1 h)) hS1
theorem zw_l {v : Int64} (hr : va_Run p l e R s m args below meth c H locs cells slots mc ms (F0 m pc ls st0) rest (va_Ql (fun r (_ : Unit) => r = v) (fun _ t => zwd D tys (va_A ws H.size) ws' t) (va_A ws H.size) a) (va_A ws H.size))
    (hD : va_D A ws) (hS : va_S A H0 H locs) (hA : ∀ q, H0.size ≤ q → A q)
    (kk : ∀ (H1 : Heap) (locs1 : List Loc), va_P D vwCl ws' H1 → va_D A ws' → va_S A H0 H1 locs1 → W p l e R s m args below meth c H1 locs1 (cells + mc) (slots + ms) Q (F0 m (pc + 3) ls (.long v :: rest))) : W p l e R s m args below meth c H locs cells slots Q (F0 m pc ls st0) := by
  have hF := zfreeW hD hS hA
  refine va_calll hr hS (fun q _ h => hF q h) hF (fun r u t H1 locs1 ht hvm hw hB hz1 hk1 hS1 => ?_)
  obtain ⟨hP1, -, hD1⟩ := hB
  rw [ht] at hP1
  subst hw
  exact kk H1 locs1 hP1 (hD1.weaken (fun _ q _ h => hF q.1 h)) hS1
end
theorem zrw_w {D : va_G} {tys : List (ClassId × FieldType)} {A : Nat → Prop} {ws : va_W} {H : Heap} {s : State} (hP : va_P D vwCl ws H) (hD : va_D A ws) (hK : va_K D vwCl tys s) (hN : zNw s) (av : List Value) : ∀ U : State, U.heap = H → s.WarmedH U.vm → va_Pc av (zrw D tys H.size ws) av.toArray U :=
  fun U hU hW' => ⟨rfl, by rw [hU], by rw [hU]; exact hP, va_K.moved hW'.alike hK, hD.weaken (fun _ _ _ _ => trivial), zNw_w hW' hN⟩

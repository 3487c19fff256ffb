abbrev TreeV : Type := Int64 × Int32 × Int32 × Int32 × Int32 × Int64 × Int32 × Int64 × Int64 × Int32
abbrev zcT (x : TreeV) : va_E := .inr (0, [.long x.1, .int x.2.1, .int x.2.2.1, .int x.2.2.2.1, .int x.2.2.2.2.1, .long x.2.2.2.2.2.1, .int x.2.2.2.2.2.2.1, .long x.2.2.2.2.2.2.2.1, .long x.2.2.2.2.2.2.2.2.1, .int x.2.2.2.2.2.2.2.2.2])
def f_T_setAsSum (x : TreeV) : Option (Int64) :=
  some (x.2.2.2.2.1.toInt64 &&& 4294967295)
set_option maxHeartbeats 4000000 in
set_option maxRecDepth 100000 in
theorem c_T_setAsSum (l : Launch) (D : va_G) (tys : List (ClassId × FieldType)) (h0 : Nat) (x : TreeV) (v : Int64) (hres : f_T_setAsSum x = some v) : Met l y_T_setAsSum w_T_setAsSum ({ frames := 0, cells := 0, slots := 0, locals := 0 } : Room) (va_Pc ([.ref h0]) (zro D tys ([(h0, zcT x)]))) (vp_Sl (fun r : Int64 => r = v)) 0 0 (fun _ => False) := by
  refine Met.ofW (cc := b_T_setAsSum) (maxL := 1) (ret := (some .long)) (by decide) rfl ?_
  intro p e s m args below meth c s₁ B hml hv
  obtain ⟨rfl, hP, hK, hN⟩ := hv
  have hx := B.exec
  have hb := B.bytes
  have hr := B.returns
  have hts : ∀ w ∈ zt, w.before ([.ref h0].toArray) s = true := fun w h => atoms_spec (ws := w_T_setAsSum) B.pre w (List.mem_cons_of_mem _ h)
  have hown : s.vm.findClass R_T = some m.cls := findClass_of_methodNamed B.named
  have hlocks := B.notSynchronized
  have hl := lv_entry ([.ref h0]) (n := 1) (Nat.le_of_ble_eq_true rfl)
  rw [lg_entry_eq]
  generalize (lg_sl ([.ref h0]) ++ List.replicate (1 - (lg_sl ([.ref h0])).length) Slot.unset).toArray = ls at hl ⊢
  have hl : lv_has ls 1 [(0, .ref h0)] := hl
  unfold f_T_setAsSum at hres
  refine lv_aload_n hx hb d_T_setAsSum_0 rfl (lv_at hl 0 rfl) ?_
  refine va_get (D := D) (ci := 0) (v := .int x.2.2.2.2.1) (C := R_T) (T := T_T) (N := 10) hx hb hts in_T hown hK hP (0) rfl rfl 4 (by decide) (hts _ k_74) (fun _ h9 => h9) rfl d_T_setAsSum_1 ?_
  refine lv_i2l (v := x.2.2.2.2.1.toInt64) hx hb d_T_setAsSum_4 rfl ?_
  refine lv_ldc2 (v := 4294967295) hx hb hown (hts _ k_194) d_T_setAsSum_5 ?_
  refine lv_land hx hb d_T_setAsSum_8 ?_
  obtain rfl := Option.some.inj hres
  exact W.lret (v := (x.2.2.2.2.1.toInt64 &&& 4294967295)) hx hb hr (fun t ht hW => ⟨_, rfl, rfl, ht⟩) (fun _ hq => by cases hq) d_T_setAsSum_9
abbrev qd_T_become (D : va_G) (tys : List (ClassId × FieldType)) (h0 : Nat) (h1 : Nat) (x : TreeV) (y : TreeV) (v : TreeV) (A : Nat → Prop) : Array Value → State → Outcome → State → Prop := va_Qv (fun _ : Unit => True) (fun _ t => zwd D tys (A) ([(h0, zcT v)] ++ [(h1, zcT y)]) t) (A)

def f_T_become (x : TreeV) (y : TreeV) : Option (TreeV) :=
  if zb_z y.2.2.2.2.2.2.1 then
    some y
  else
    none
set_option maxHeartbeats 4000000 in
set_option maxRecDepth 100000 in
theorem c_T_become (l : Launch) (D : va_G) (tys : List (ClassId × FieldType)) (sz : Nat) (h0 : Nat) (h1 : Nat) (x : TreeV) (y : TreeV) (v : TreeV) (hres : f_T_become x y = some v) : Met l y_T_become w_T_become ({ frames := 0, cells := 0, slots := 0, locals := 0 } : Room) (va_Pc ([.ref h0, .ref h1]) (zrw D tys sz ([(h0, zcT x)] ++ [(h1, zcT y)]))) (qd_T_become D tys h0 h1 x y v (va_A ([(h0, zcT x)] ++ [(h1, zcT y)]) sz)) 0 0 (va_A ([(h0, zcT x)] ++ [(h1, zcT y)]) sz) := by
  refine Met.ofW (cc := b_T_become) (maxL := 2) (ret := none) (by decide) rfl ?_
  intro p e s m args below meth c s₁ B hml hv
  obtain ⟨rfl, hsz, hP, hK, hD0, hN⟩ := hv
  have hx := B.exec
  have hb := B.bytes
  have hr := B.returns
  have hts : ∀ w ∈ zt, w.before ([.ref h0, .ref h1].toArray) s = true := fun w h => atoms_spec (ws := w_T_become) B.pre w (List.mem_cons_of_mem _ h)
  have hown : s.vm.findClass R_T = some m.cls := findClass_of_methodNamed B.named
  have hlocks := B.notSynchronized
  subst hsz
  have hD := hD0.self (sz := s.heap.size)
  generalize hAe : va_A ([(h0, zcT x)] ++ [(h1, zcT y)]) s.heap.size = A at hD ⊢
  have hA : ∀ q : Nat, s.heap.size ≤ q → A q := fun q h => by rw [← hAe]; exact Or.inr h
  have hS : va_S A s.heap s.heap [] := va_S.rf
  have hP : va_P D vwCl ([(h0, zcT x), (h1, zcT y)]) s.heap := hP
  have hD : va_D A ([(h0, zcT x), (h1, zcT y)]) := hD
  have hl := lv_entry ([.ref h0, .ref h1]) (n := 2) (Nat.le_of_ble_eq_true rfl)
  rw [lg_entry_eq]
  generalize (lg_sl ([.ref h0, .ref h1]) ++ List.replicate (2 - (lg_sl ([.ref h0, .ref h1])).length) Slot.unset).toArray = ls at hl ⊢
  have hl : lv_has ls 2 [(0, .ref h0), (1, .ref h1)] := hl
  unfold f_T_become at hres
  refine lv_aload_n hx hb d_T_become_0 rfl (lv_at hl 0 rfl) ?_
  refine lv_aload_n hx hb d_T_become_1 rfl (lv_at hl 1 rfl) ?_
  refine va_get (D := D) (ci := 0) (v := .long y.1) (C := R_T) (T := T_T) (N := 10) hx hb hts in_T hown hK hP (1) rfl rfl 0 (by decide) (hts _ k_54) (fun _ h9 => h9) rfl d_T_become_2 ?_
  refine va_put (D := D) (ci := 0) (v := .long y.1) (ty := .long) (C := R_T) (T := T_T) (N := 10) hx hb hts in_T ty_T ok_T nm_T hown hK hP hD hS 0 rfl rfl 0 (by decide) (hts _ k_54) (fun _ h9 => h9) rfl (by decide +kernel) rfl rfl (Nat.le_of_ble_eq_true rfl) d_T_become_5 (fun H locs hP hD hS => ?_)
  have hP : va_P D vwCl ([(h0, .inr (0, [.long y.1, .int x.2.1, .int x.2.2.1, .int x.2.2.2.1, .int x.2.2.2.2.1, .long x.2.2.2.2.2.1, .int x.2.2.2.2.2.2.1, .long x.2.2.2.2.2.2.2.1, .long x.2.2.2.2.2.2.2.2.1, .int x.2.2.2.2.2.2.2.2.2])), (h1, zcT y)]) H := hP
  have hD : va_D A ([(h0, .inr (0, [.long y.1, .int x.2.1, .int x.2.2.1, .int x.2.2.2.1, .int x.2.2.2.2.1, .long x.2.2.2.2.2.1, .int x.2.2.2.2.2.2.1, .long x.2.2.2.2.2.2.2.1, .long x.2.2.2.2.2.2.2.2.1, .int x.2.2.2.2.2.2.2.2.2])), (h1, zcT y)]) := hD
  refine lv_aload_n hx hb d_T_become_8 rfl (lv_at hl 0 rfl) ?_
  refine lv_aload_n hx hb d_T_become_9 rfl (lv_at hl 1 rfl) ?_
  refine va_get (D := D) (ci := 0) (v := .int y.2.1) (C := R_T) (T := T_T) (N := 10) hx hb hts in_T hown hK hP (1) rfl rfl 1 (by decide) (hts _ k_59) (fun _ h9 => h9) rfl d_T_become_10 ?_
  refine va_put (D := D) (ci := 0) (v := .int y.2.1) (ty := .int) (C := R_T) (T := T_T) (N := 10) hx hb hts in_T ty_T ok_T nm_T hown hK hP hD hS 0 rfl rfl 1 (by decide) (hts _ k_59) (fun _ h9 => h9) rfl (by decide +kernel) rfl rfl (Nat.le_of_ble_eq_true rfl) d_T_become_13 (fun H locs hP hD hS => ?_)
  have hP : va_P D vwCl ([(h0, .inr (0, [.long y.1, .int y.2.1, .int x.2.2.1, .int x.2.2.2.1, .int x.2.2.2.2.1, .long x.2.2.2.2.2.1, .int x.2.2.2.2.2.2.1, .long x.2.2.2.2.2.2.2.1, .long x.2.2.2.2.2.2.2.2.1, .int x.2.2.2.2.2.2.2.2.2])), (h1, zcT y)]) H := hP
  have hD : va_D A ([(h0, .inr (0, [.long y.1, .int y.2.1, .int x.2.2.1, .int x.2.2.2.1, .int x.2.2.2.2.1, .long x.2.2.2.2.2.1, .int x.2.2.2.2.2.2.1, .long x.2.2.2.2.2.2.2.1, .long x.2.2.2.2.2.2.2.2.1, .int x.2.2.2.2.2.2.2.2.2])), (h1, zcT y)]) := hD
  refine lv_aload_n hx hb d_T_become_16 rfl (lv_at hl 0 rfl) ?_
  refine lv_aload_n hx hb d_T_become_17 rfl (lv_at hl 1 rfl) ?_
  refine va_get (D := D) (ci := 0) (v := .int y.2.2.1) (C := R_T) (T := T_T) (N := 10) hx hb hts in_T hown hK hP (1) rfl rfl 2 (by decide) (hts _ k_64) (fun _ h9 => h9) rfl d_T_become_18 ?_
  refine va_put (D := D) (ci := 0) (v := .int y.2.2.1) (ty := .int) (C := R_T) (T := T_T) (N := 10) hx hb hts in_T ty_T ok_T nm_T hown hK hP hD hS 0 rfl rfl 2 (by decide) (hts _ k_64) (fun _ h9 => h9) rfl (by decide +kernel) rfl rfl (Nat.le_of_ble_eq_true rfl) d_T_become_21 (fun H locs hP hD hS => ?_)
  have hP : va_P D vwCl ([(h0, .inr (0, [.long y.1, .int y.2.1, .int y.2.2.1, .int x.2.2.2.1, .int x.2.2.2.2.1, .long x.2.2.2.2.2.1, .int x.2.2.2.2.2.2.1, .long x.2.2.2.2.2.2.2.1, .long x.2.2.2.2.2.2.2.2.1, .int x.2.2.2.2.2.2.2.2.2])), (h1, zcT y)]) H := hP
  have hD : va_D A ([(h0, .inr (0, [.long y.1, .int y.2.1, .int y.2.2.1, .int x.2.2.2.1, .int x.2.2.2.2.1, .long x.2.2.2.2.2.1, .int x.2.2.2.2.2.2.1, .long x.2.2.2.2.2.2.2.1, .long x.2.2.2.2.2.2.2.2.1, .int x.2.2.2.2.2.2.2.2.2])), (h1, zcT y)]) := hD
  refine lv_aload_n hx hb d_T_become_24 rfl (lv_at hl 0 rfl) ?_
  refine lv_aload_n hx hb d_T_become_25 rfl (lv_at hl 1 rfl) ?_
  refine va_get (D := D) (ci := 0) (v := .int y.2.2.2.1) (C := R_T) (T := T_T) (N := 10) hx hb hts in_T hown hK hP (1) rfl rfl 3 (by decide) (hts _ k_70) (fun _ h9 => h9) rfl d_T_become_26 ?_
  refine va_put (D := D) (ci := 0) (v := .int y.2.2.2.1) (ty := .int) (C := R_T) (T := T_T) (N := 10) hx hb hts in_T ty_T ok_T nm_T hown hK hP hD hS 0 rfl rfl 3 (by decide) (hts _ k_70) (fun _ h9 => h9) rfl (by decide +kernel) rfl rfl (Nat.le_of_ble_eq_true rfl) d_T_become_29 (fun H locs hP hD hS => ?_)
  have hP : va_P D vwCl ([(h0, .inr (0, [.long y.1, .int y.2.1, .int y.2.2.1, .int y.2.2.2.1, .int x.2.2.2.2.1, .long x.2.2.2.2.2.1, .int x.2.2.2.2.2.2.1, .long x.2.2.2.2.2.2.2.1, .long x.2.2.2.2.2.2.2.2.1, .int x.2.2.2.2.2.2.2.2.2])), (h1, zcT y)]) H := hP
  have hD : va_D A ([(h0, .inr (0, [.long y.1, .int y.2.1, .int y.2.2.1, .int y.2.2.2.1, .int x.2.2.2.2.1, .long x.2.2.2.2.2.1, .int x.2.2.2.2.2.2.1, .long x.2.2.2.2.2.2.2.1, .long x.2.2.2.2.2.2.2.2.1, .int x.2.2.2.2.2.2.2.2.2])), (h1, zcT y)]) := hD
  refine lv_aload_n hx hb d_T_become_32 rfl (lv_at hl 0 rfl) ?_
  refine lv_aload_n hx hb d_T_become_33 rfl (lv_at hl 1 rfl) ?_
  refine va_get (D := D) (ci := 0) (v := .int y.2.2.2.2.1) (C := R_T) (T := T_T) (N := 10) hx hb hts in_T hown hK hP (1) rfl rfl 4 (by decide) (hts _ k_74) (fun _ h9 => h9) rfl d_T_become_34 ?_
  refine va_put (D := D) (ci := 0) (v := .int y.2.2.2.2.1) (ty := .int) (C := R_T) (T := T_T) (N := 10) hx hb hts in_T ty_T ok_T nm_T hown hK hP hD hS 0 rfl rfl 4 (by decide) (hts _ k_74) (fun _ h9 => h9) rfl (by decide +kernel) rfl rfl (Nat.le_of_ble_eq_true rfl) d_T_become_37 (fun H locs hP hD hS => ?_)
  have hP : va_P D vwCl ([(h0, .inr (0, [.long y.1, .int y.2.1, .int y.2.2.1, .int y.2.2.2.1, .int y.2.2.2.2.1, .long x.2.2.2.2.2.1, .int x.2.2.2.2.2.2.1, .long x.2.2.2.2.2.2.2.1, .long x.2.2.2.2.2.2.2.2.1, .int x.2.2.2.2.2.2.2.2.2])), (h1, zcT y)]) H := hP
  have hD : va_D A ([(h0, .inr (0, [.long y.1, .int y.2.1, .int y.2.2.1, .int y.2.2.2.1, .int y.2.2.2.2.1, .long x.2.2.2.2.2.1, .int x.2.2.2.2.2.2.1, .long x.2.2.2.2.2.2.2.1, .long x.2.2.2.2.2.2.2.2.1, .int x.2.2.2.2.2.2.2.2.2])), (h1, zcT y)]) := hD
  refine lv_aload_n hx hb d_T_become_40 rfl (lv_at hl 0 rfl) ?_
  refine lv_aload_n hx hb d_T_become_41 rfl (lv_at hl 1 rfl) ?_
  refine va_get (D := D) (ci := 0) (v := .long y.2.2.2.2.2.1) (C := R_T) (T := T_T) (N := 10) hx hb hts in_T hown hK hP (1) rfl rfl 5 (by decide) (hts _ k_77) (fun _ h9 => h9) rfl d_T_become_42 ?_
  refine va_put (D := D) (ci := 0) (v := .long y.2.2.2.2.2.1) (ty := .long) (C := R_T) (T := T_T) (N := 10) hx hb hts in_T ty_T ok_T nm_T hown hK hP hD hS 0 rfl rfl 5 (by decide) (hts _ k_77) (fun _ h9 => h9) rfl (by decide +kernel) rfl rfl (Nat.le_of_ble_eq_true rfl) d_T_become_45 (fun H locs hP hD hS => ?_)
  have hP : va_P D vwCl ([(h0, .inr (0, [.long y.1, .int y.2.1, .int y.2.2.1, .int y.2.2.2.1, .int y.2.2.2.2.1, .long y.2.2.2.2.2.1, .int x.2.2.2.2.2.2.1, .long x.2.2.2.2.2.2.2.1, .long x.2.2.2.2.2.2.2.2.1, .int x.2.2.2.2.2.2.2.2.2])), (h1, zcT y)]) H := hP
  have hD : va_D A ([(h0, .inr (0, [.long y.1, .int y.2.1, .int y.2.2.1, .int y.2.2.2.1, .int y.2.2.2.2.1, .long y.2.2.2.2.2.1, .int x.2.2.2.2.2.2.1, .long x.2.2.2.2.2.2.2.1, .long x.2.2.2.2.2.2.2.2.1, .int x.2.2.2.2.2.2.2.2.2])), (h1, zcT y)]) := hD
  refine lv_aload_n hx hb d_T_become_48 rfl (lv_at hl 0 rfl) ?_
  refine lv_aload_n hx hb d_T_become_49 rfl (lv_at hl 1 rfl) ?_
  refine va_get (D := D) (ci := 0) (v := .int y.2.2.2.2.2.2.1) (C := R_T) (T := T_T) (N := 10) hx hb hts in_T hown hK hP (1) rfl rfl 6 (by decide) (hts _ k_82) (fun _ h9 => h9) rfl d_T_become_50 ?_
  by_cases ck_53 : zb_z y.2.2.2.2.2.2.1
  · have hres := zi_p ck_53 hres
    refine va_put (D := D) (ci := 0) (v := .int y.2.2.2.2.2.2.1) (ty := .boolean) (C := R_T) (T := T_T) (N := 10) hx hb hts in_T ty_T ok_T nm_T hown hK hP hD hS 0 rfl rfl 6 (by decide) (hts _ k_82) (fun _ h9 => h9) rfl (by decide +kernel) (zb_n ck_53) (zb_f ck_53) (Nat.le_of_ble_eq_true rfl) d_T_become_53 (fun H locs hP hD hS => ?_)
    have hP : va_P D vwCl ([(h0, .inr (0, [.long y.1, .int y.2.1, .int y.2.2.1, .int y.2.2.2.1, .int y.2.2.2.2.1, .long y.2.2.2.2.2.1, .int y.2.2.2.2.2.2.1, .long x.2.2.2.2.2.2.2.1, .long x.2.2.2.2.2.2.2.2.1, .int x.2.2.2.2.2.2.2.2.2])), (h1, zcT y)]) H := hP
    have hD : va_D A ([(h0, .inr (0, [.long y.1, .int y.2.1, .int y.2.2.1, .int y.2.2.2.1, .int y.2.2.2.2.1, .long y.2.2.2.2.2.1, .int y.2.2.2.2.2.2.1, .long x.2.2.2.2.2.2.2.1, .long x.2.2.2.2.2.2.2.2.1, .int x.2.2.2.2.2.2.2.2.2])), (h1, zcT y)]) := hD
    refine lv_aload_n hx hb d_T_become_56 rfl (lv_at hl 0 rfl) ?_
    refine lv_aload_n hx hb d_T_become_57 rfl (lv_at hl 1 rfl) ?_
    refine va_get (D := D) (ci := 0) (v := .long y.2.2.2.2.2.2.2.1) (C := R_T) (T := T_T) (N := 10) hx hb hts in_T hown hK hP (1) rfl rfl 7 (by decide) (hts _ k_87) (fun _ h9 => h9) rfl d_T_become_58 ?_
    refine va_put (D := D) (ci := 0) (v := .long y.2.2.2.2.2.2.2.1) (ty := .long) (C := R_T) (T := T_T) (N := 10) hx hb hts in_T ty_T ok_T nm_T hown hK hP hD hS 0 rfl rfl 7 (by decide) (hts _ k_87) (fun _ h9 => h9) rfl (by decide +kernel) rfl rfl (Nat.le_of_ble_eq_true rfl) d_T_become_61 (fun H locs hP hD hS => ?_)
    have hP : va_P D vwCl ([(h0, .inr (0, [.long y.1, .int y.2.1, .int y.2.2.1, .int y.2.2.2.1, .int y.2.2.2.2.1, .long y.2.2.2.2.2.1, .int y.2.2.2.2.2.2.1, .long y.2.2.2.2.2.2.2.1, .long x.2.2.2.2.2.2.2.2.1, .int x.2.2.2.2.2.2.2.2.2])), (h1, zcT y)]) H := hP
    have hD : va_D A ([(h0, .inr (0, [.long y.1, .int y.2.1, .int y.2.2.1, .int y.2.2.2.1, .int y.2.2.2.2.1, .long y.2.2.2.2.2.1, .int y.2.2.2.2.2.2.1, .long y.2.2.2.2.2.2.2.1, .long x.2.2.2.2.2.2.2.2.1, .int x.2.2.2.2.2.2.2.2.2])), (h1, zcT y)]) := hD
    refine lv_aload_n hx hb d_T_become_64 rfl (lv_at hl 0 rfl) ?_
    refine lv_aload_n hx hb d_T_become_65 rfl (lv_at hl 1 rfl) ?_
    refine va_get (D := D) (ci := 0) (v := .long y.2.2.2.2.2.2.2.2.1) (C := R_T) (T := T_T) (N := 10) hx hb hts in_T hown hK hP (1) rfl rfl 8 (by decide) (hts _ k_92) (fun _ h9 => h9) rfl d_T_become_66 ?_
    refine va_put (D := D) (ci := 0) (v := .long y.2.2.2.2.2.2.2.2.1) (ty := .long) (C := R_T) (T := T_T) (N := 10) hx hb hts in_T ty_T ok_T nm_T hown hK hP hD hS 0 rfl rfl 8 (by decide) (hts _ k_92) (fun _ h9 => h9) rfl (by decide +kernel) rfl rfl (Nat.le_of_ble_eq_true rfl) d_T_become_69 (fun H locs hP hD hS => ?_)
    have hP : va_P D vwCl ([(h0, .inr (0, [.long y.1, .int y.2.1, .int y.2.2.1, .int y.2.2.2.1, .int y.2.2.2.2.1, .long y.2.2.2.2.2.1, .int y.2.2.2.2.2.2.1, .long y.2.2.2.2.2.2.2.1, .long y.2.2.2.2.2.2.2.2.1, .int x.2.2.2.2.2.2.2.2.2])), (h1, zcT y)]) H := hP
    have hD : va_D A ([(h0, .inr (0, [.long y.1, .int y.2.1, .int y.2.2.1, .int y.2.2.2.1, .int y.2.2.2.2.1, .long y.2.2.2.2.2.1, .int y.2.2.2.2.2.2.1, .long y.2.2.2.2.2.2.2.1, .long y.2.2.2.2.2.2.2.2.1, .int x.2.2.2.2.2.2.2.2.2])), (h1, zcT y)]) := hD
    refine lv_aload_n hx hb d_T_become_72 rfl (lv_at hl 0 rfl) ?_
    refine lv_aload_n hx hb d_T_become_73 rfl (lv_at hl 1 rfl) ?_
    refine va_get (D := D) (ci := 0) (v := .int y.2.2.2.2.2.2.2.2.2) (C := R_T) (T := T_T) (N := 10) hx hb hts in_T hown hK hP (1) rfl rfl 9 (by decide) (hts _ k_97) (fun _ h9 => h9) rfl d_T_become_74 ?_
    refine va_put (D := D) (ci := 0) (v := .int y.2.2.2.2.2.2.2.2.2) (ty := .int) (C := R_T) (T := T_T) (N := 10) hx hb hts in_T ty_T ok_T nm_T hown hK hP hD hS 0 rfl rfl 9 (by decide) (hts _ k_97) (fun _ h9 => h9) rfl (by decide +kernel) rfl rfl (Nat.le_of_ble_eq_true rfl) d_T_become_77 (fun H locs hP hD hS => ?_)
    have hP : va_P D vwCl ([(h0, zcT y), (h1, zcT y)]) H := hP
    have hD : va_D A ([(h0, zcT y), (h1, zcT y)]) := hD
    obtain rfl := Option.some.inj hres
    exact W.vret hx hb hr (fun t ht hW => ⟨⟨(), rfl, trivial, by rw [ht]; exact hP, va_K.moved hW.alike hK, hD⟩, hS.F ht⟩) hS.2.2 d_T_become_80
  · exact absurd (zi_n ck_53 hres) (by simp)
def f_H_fits (x : TreeV) (k : Int32) (z : Int64) : Option (Int32) :=
  if k = 3 then
    Option.bind (f_T_setAsSum x) (fun v41 =>
      Option.bind (f_V_isIn v41 z.toInt32) (fun v46 =>
        if v46 = 0 then
          some 1
        else
          some 0))
  else
    if k = 4 then
      Option.bind (f_T_setAsSum x) (fun v59 =>
        Option.bind (f_V_isIn v59 z.toInt32) (fun v64 =>
          if zb_z v64 then
            some v64
          else
            none))
    else
      if k = 5 then
        Option.bind (f_Q_members x.2.2.2.2.2.1) (fun v72 =>
          Option.bind (f_V_isIn v72.toInt64 z.toInt32) (fun v78 =>
            if v78 = 0 then
              Option.bind (f_Q_length x.2.2.2.2.2.1) (fun v88 =>
                if 8 ≤ v88 then
                  some 0
                else
                  some 1)
            else
              some 0))
      else
        if k = 6 then
          Option.bind (f_Q_length x.2.2.2.2.2.1) (fun v106 =>
            if v106 ≤ 0 then
              some 0
            else
              some 1)
        else
          if k = 7 then
            some 1
          else
            if k = 8 then
              if zb_z x.2.2.2.2.2.2.1 then
                some x.2.2.2.2.2.2.1
              else
                none
            else
              some 1
set_option maxHeartbeats 4000000 in
set_option maxRecDepth 100000 in
theorem c_H_fits (l : Launch) (D : va_G) (tys : List (ClassId × FieldType)) (h0 : Nat) (x : TreeV) (k : Int32) (z : Int64) (v : Int32) (hres : f_H_fits x k z = some v) : Met l y_H_fits w_H_fits ({ frames := 2, cells := 0, slots := 0, locals := 46 } : Room) (va_Pc ([.ref h0, .int k, .long z]) (zro D tys ([(h0, zcT x)]))) (vp_Si (fun r : Int32 => r = v)) 0 0 (fun _ => False) := by
  refine Met.ofW (cc := b_H_fits) (maxL := 4) (ret := (some .boolean)) (by decide) rfl ?_
  intro p e s m args below meth c s₁ B hml hv
  obtain ⟨rfl, hP, hK, hN⟩ := hv
  have hx := B.exec
  have hb := B.bytes
  have hr := B.returns
  have hts : ∀ w ∈ zt, w.before ([.ref h0, .int k, .long z].toArray) s = true := fun w h => atoms_spec (ws := w_H_fits) B.pre w (List.mem_cons_of_mem _ h)
  have hown : s.vm.findClass R_H = some m.cls := findClass_of_methodNamed B.named
  have hlocks := B.notSynchronized
  have hl := lv_entry ([.ref h0, .int k, .long z]) (n := 4) (Nat.le_of_ble_eq_true rfl)
  rw [lg_entry_eq]
  generalize (lg_sl ([.ref h0, .int k, .long z]) ++ List.replicate (4 - (lg_sl ([.ref h0, .int k, .long z])).length) Slot.unset).toArray = ls at hl ⊢
  have hl : lv_has ls 4 [(0, .ref h0), (1, .int k), (2, .long z)] := hl
  unfold f_H_fits at hres
  refine lv_iload_n hx hb d_H_fits_0 rfl (lv_at hl 1 rfl) ?_
  by_cases c_1_0 : k = 3
  · have hres := zi_p c_1_0 hres
    refine lv_tableIn (off := 39) (tgt := 40) hx hb d_H_fits_1 (by rw [c_1_0]; decide) (by rw [c_1_0]; decide) (by rw [c_1_0]; decide) (by decide) ?_
    refine lv_aload_n hx hb d_H_fits_40 rfl (lv_at hl 0 rfl) ?_
    obtain ⟨v41, hc41, hres⟩ := zo_b hres
    have hPc := zsubP hP (wc := [(h0, zcT x)]) (is := [0]) (zcons rfl znil)
    refine vp_callSl (va_Run.run (va_runV (As := []) (rest := []) ⟨hx, hb, hml, hown, hts⟩ (c_T_setAsSum l D tys h0 x v41 hc41) (cwV 0 hts (zg_V k_190 k_191 k_192 k_30 g_T_setAsSum) rfl rfl rfl ⟨rfl, hd_T_setAsSum⟩ ⟨Nat.le_of_ble_eq_true rfl, Nat.le_of_ble_eq_true rfl⟩) ⟨zro_b _, va_recv hK hPc (q0 := 0) rfl rfl, zro_p hPc hK hN _⟩ rfl rfl hl.1 rfl (lv_room (Nat.le_of_ble_eq_true rfl)) d_H_fits_41 ⟨Nat.zero_le _, Nat.zero_le _⟩)) (fun r_41 er_41 => ?_)
    have er_41 := er_41.symm
    subst er_41
    refine lv_lload_n hx hb d_H_fits_44 rfl (lv_at hl 2 rfl) ?_
    refine lv_l2i (v := z.toInt32) hx hb d_H_fits_45 rfl ?_
    obtain ⟨v46, hc46, hres⟩ := zo_b hres
    refine vp_callSi (va_Run.run (va_runSN (As := [.long v41, .int z.toInt32]) (rest := []) ⟨hx, hb, hml, hown, hts⟩ (c_V_isIn l D tys v41 z.toInt32 v46 hc46) ⟨va_cnB 2 hts g_V_isIn rfl rfl rfl hN.2.2.1 (hts _ k_29) hd_V_isIn ⟨Nat.le_of_ble_eq_true rfl, Nat.le_of_ble_eq_true rfl⟩, hts _ k_196, trivial⟩ ⟨zro_b _, zro_p va_Pnil hK hN _⟩ rfl rfl hl.1 rfl (lv_room (Nat.le_of_ble_eq_true rfl)) d_H_fits_46 ⟨Nat.zero_le _, Nat.zero_le _⟩)) (fun r_46 er_46 => ?_)
    have er_46 := er_46.symm
    subst er_46
    refine lv_if_ne (tgt := 56) hx hb d_H_fits_49 (by decide) (fun c_49 => ?_) (fun c_49 => ?_)
    · have hres := zi_n c_49 hres
      refine lv_iconst (v := 0) hx hb d_H_fits_56 (by decide) ?_
      obtain rfl := Option.some.inj hres
      exact W.zret (v := 0) (ty := .boolean) hx hb hr rfl (fun t ht hW => ⟨_, rfl, rfl, ht⟩) (fun _ hq => by cases hq) d_H_fits_57
    · have hres := zi_p c_49 hres
      refine lv_iconst (v := 1) hx hb d_H_fits_52 (by decide) ?_
      refine lv_goto (tgt := 57) hx hb d_H_fits_53 (by decide) ?_
      obtain rfl := Option.some.inj hres
      exact W.zret (v := 1) (ty := .boolean) hx hb hr rfl (fun t ht hW => ⟨_, rfl, rfl, ht⟩) (fun _ hq => by cases hq) d_H_fits_57
  · have hres := zi_n c_1_0 hres
    by_cases c_1_1 : k = 4
    · have hres := zi_p c_1_1 hres
      refine lv_tableIn (off := 57) (tgt := 58) hx hb d_H_fits_1 (by rw [c_1_1]; decide) (by rw [c_1_1]; decide) (by rw [c_1_1]; decide) (by decide) ?_
      refine lv_aload_n hx hb d_H_fits_58 rfl (lv_at hl 0 rfl) ?_
      obtain ⟨v59, hc59, hres⟩ := zo_b hres
      have hPc := zsubP hP (wc := [(h0, zcT x)]) (is := [0]) (zcons rfl znil)
      refine vp_callSl (va_Run.run (va_runV (As := []) (rest := []) ⟨hx, hb, hml, hown, hts⟩ (c_T_setAsSum l D tys h0 x v59 hc59) (cwV 0 hts (zg_V k_190 k_191 k_192 k_30 g_T_setAsSum) rfl rfl rfl ⟨rfl, hd_T_setAsSum⟩ ⟨Nat.le_of_ble_eq_true rfl, Nat.le_of_ble_eq_true rfl⟩) ⟨zro_b _, va_recv hK hPc (q0 := 0) rfl rfl, zro_p hPc hK hN _⟩ rfl rfl hl.1 rfl (lv_room (Nat.le_of_ble_eq_true rfl)) d_H_fits_59 ⟨Nat.zero_le _, Nat.zero_le _⟩)) (fun r_59 er_59 => ?_)
      have er_59 := er_59.symm
      subst er_59
      refine lv_lload_n hx hb d_H_fits_62 rfl (lv_at hl 2 rfl) ?_
      refine lv_l2i (v := z.toInt32) hx hb d_H_fits_63 rfl ?_
      obtain ⟨v64, hc64, hres⟩ := zo_b hres
      refine vp_callSi (va_Run.run (va_runSN (As := [.long v59, .int z.toInt32]) (rest := []) ⟨hx, hb, hml, hown, hts⟩ (c_V_isIn l D tys v59 z.toInt32 v64 hc64) ⟨va_cnB 2 hts g_V_isIn rfl rfl rfl hN.2.2.1 (hts _ k_29) hd_V_isIn ⟨Nat.le_of_ble_eq_true rfl, Nat.le_of_ble_eq_true rfl⟩, hts _ k_196, trivial⟩ ⟨zro_b _, zro_p va_Pnil hK hN _⟩ rfl rfl hl.1 rfl (lv_room (Nat.le_of_ble_eq_true rfl)) d_H_fits_64 ⟨Nat.zero_le _, Nat.zero_le _⟩)) (fun r_64 er_64 => ?_)
      have er_64 := er_64.symm
      subst er_64
      by_cases kz_67 : zb_z v64
      · have hres := zi_p kz_67 hres
        have hz_67 := zb_n kz_67
        obtain rfl := Option.some.inj hres
        exact W.zret (v := v64) (ty := .boolean) hx hb hr hz_67 (fun t ht hW => ⟨_, rfl, rfl, ht⟩) (fun _ hq => by cases hq) d_H_fits_67
      · exact absurd (zi_n kz_67 hres) (by simp)
    · have hres := zi_n c_1_1 hres
      by_cases c_1_2 : k = 5
      · have hres := zi_p c_1_2 hres
        refine lv_tableIn (off := 67) (tgt := 68) hx hb d_H_fits_1 (by rw [c_1_2]; decide) (by rw [c_1_2]; decide) (by rw [c_1_2]; decide) (by decide) ?_
        refine lv_aload_n hx hb d_H_fits_68 rfl (lv_at hl 0 rfl) ?_
        refine va_get (D := D) (ci := 0) (v := .long x.2.2.2.2.2.1) (C := R_T) (T := T_T) (N := 10) hx hb hts in_T hown hK hP (0) rfl rfl 5 (by decide) (hts _ k_79) (fun _ h9 => h9) rfl d_H_fits_69 ?_
        obtain ⟨v72, hc72, hres⟩ := zo_b hres
        refine vp_callSi (va_Run.run (va_runS (As := [.long x.2.2.2.2.2.1]) (rest := []) ⟨hx, hb, hml, hown, hts⟩ (c_Q_members l D tys x.2.2.2.2.2.1 v72 hc72) (va_cwS 1 hts (zg_S k_198 k_199 k_34 g_Q_members) rfl rfl rfl hd_Q_members ⟨Nat.le_of_ble_eq_true rfl, Nat.le_of_ble_eq_true rfl⟩) ⟨zro_b _, zro_p va_Pnil hK hN _⟩ rfl rfl hl.1 rfl (lv_room (Nat.le_of_ble_eq_true rfl)) d_H_fits_72 ⟨Nat.zero_le _, Nat.zero_le _⟩)) (fun r_72 er_72 => ?_)
        have er_72 := er_72.symm
        subst er_72
        refine lv_i2l (v := v72.toInt64) hx hb d_H_fits_75 rfl ?_
        refine lv_lload_n hx hb d_H_fits_76 rfl (lv_at hl 2 rfl) ?_
        refine lv_l2i (v := z.toInt32) hx hb d_H_fits_77 rfl ?_
        obtain ⟨v78, hc78, hres⟩ := zo_b hres
        refine vp_callSi (va_Run.run (va_runSN (As := [.long v72.toInt64, .int z.toInt32]) (rest := []) ⟨hx, hb, hml, hown, hts⟩ (c_V_isIn l D tys v72.toInt64 z.toInt32 v78 hc78) ⟨va_cnB 2 hts g_V_isIn rfl rfl rfl hN.2.2.1 (hts _ k_29) hd_V_isIn ⟨Nat.le_of_ble_eq_true rfl, Nat.le_of_ble_eq_true rfl⟩, hts _ k_196, trivial⟩ ⟨zro_b _, zro_p va_Pnil hK hN _⟩ rfl rfl hl.1 rfl (lv_room (Nat.le_of_ble_eq_true rfl)) d_H_fits_78 ⟨Nat.zero_le _, Nat.zero_le _⟩)) (fun r_78 er_78 => ?_)
        have er_78 := er_78.symm
        subst er_78
        refine lv_if_ne (tgt := 100) hx hb d_H_fits_81 (by decide) (fun c_81 => ?_) (fun c_81 => ?_)
        · have hres := zi_n c_81 hres
          refine lv_iconst (v := 0) hx hb d_H_fits_100 (by decide) ?_
          obtain rfl := Option.some.inj hres
          exact W.zret (v := 0) (ty := .boolean) hx hb hr rfl (fun t ht hW => ⟨_, rfl, rfl, ht⟩) (fun _ hq => by cases hq) d_H_fits_101
        · have hres := zi_p c_81 hres
          refine lv_aload_n hx hb d_H_fits_84 rfl (lv_at hl 0 rfl) ?_
          refine va_get (D := D) (ci := 0) (v := .long x.2.2.2.2.2.1) (C := R_T) (T := T_T) (N := 10) hx hb hts in_T hown hK hP (0) rfl rfl 5 (by decide) (hts _ k_79) (fun _ h9 => h9) rfl d_H_fits_85 ?_
          obtain ⟨v88, hc88, hres⟩ := zo_b hres
          refine vp_callSi (va_Run.run (va_runS (As := [.long x.2.2.2.2.2.1]) (rest := []) ⟨hx, hb, hml, hown, hts⟩ (c_Q_length l D tys x.2.2.2.2.2.1 v88 hc88) (va_cwS 1 hts (zg_S k_205 k_206 k_34 g_Q_length) rfl rfl rfl hd_Q_length ⟨Nat.le_of_ble_eq_true rfl, Nat.le_of_ble_eq_true rfl⟩) ⟨zro_b _, zro_p va_Pnil hK hN _⟩ rfl rfl hl.1 rfl (lv_room (Nat.le_of_ble_eq_true rfl)) d_H_fits_88 ⟨Nat.zero_le _, Nat.zero_le _⟩)) (fun r_88 er_88 => ?_)
          have er_88 := er_88.symm
          subst er_88
          refine lv_bipush (v := 8) hx hb d_H_fits_91 (by decide) ?_
          refine lv_icmp_ge (tgt := 100) hx hb d_H_fits_93 (by decide) (fun c_93 => ?_) (fun c_93 => ?_)
          · have hres := zi_p c_93 hres
            refine lv_iconst (v := 0) hx hb d_H_fits_100 (by decide) ?_
            obtain rfl := Option.some.inj hres
            exact W.zret (v := 0) (ty := .boolean) hx hb hr rfl (fun t ht hW => ⟨_, rfl, rfl, ht⟩) (fun _ hq => by cases hq) d_H_fits_101
          · have hres := zi_n c_93 hres
            refine lv_iconst (v := 1) hx hb d_H_fits_96 (by decide) ?_
            refine lv_goto (tgt := 101) hx hb d_H_fits_97 (by decide) ?_
            obtain rfl := Option.some.inj hres
            exact W.zret (v := 1) (ty := .boolean) hx hb hr rfl (fun t ht hW => ⟨_, rfl, rfl, ht⟩) (fun _ hq => by cases hq) d_H_fits_101
      · have hres := zi_n c_1_2 hres
        by_cases c_1_3 : k = 6
        · have hres := zi_p c_1_3 hres
          refine lv_tableIn (off := 101) (tgt := 102) hx hb d_H_fits_1 (by rw [c_1_3]; decide) (by rw [c_1_3]; decide) (by rw [c_1_3]; decide) (by decide) ?_
          refine lv_aload_n hx hb d_H_fits_102 rfl (lv_at hl 0 rfl) ?_
          refine va_get (D := D) (ci := 0) (v := .long x.2.2.2.2.2.1) (C := R_T) (T := T_T) (N := 10) hx hb hts in_T hown hK hP (0) rfl rfl 5 (by decide) (hts _ k_79) (fun _ h9 => h9) rfl d_H_fits_103 ?_
          obtain ⟨v106, hc106, hres⟩ := zo_b hres
          refine vp_callSi (va_Run.run (va_runS (As := [.long x.2.2.2.2.2.1]) (rest := []) ⟨hx, hb, hml, hown, hts⟩ (c_Q_length l D tys x.2.2.2.2.2.1 v106 hc106) (va_cwS 1 hts (zg_S k_205 k_206 k_34 g_Q_length) rfl rfl rfl hd_Q_length ⟨Nat.le_of_ble_eq_true rfl, Nat.le_of_ble_eq_true rfl⟩) ⟨zro_b _, zro_p va_Pnil hK hN _⟩ rfl rfl hl.1 rfl (lv_room (Nat.le_of_ble_eq_true rfl)) d_H_fits_106 ⟨Nat.zero_le _, Nat.zero_le _⟩)) (fun r_106 er_106 => ?_)
          have er_106 := er_106.symm
          subst er_106
          refine lv_if_le (tgt := 116) hx hb d_H_fits_109 (by decide) (fun c_109 => ?_) (fun c_109 => ?_)
          · have hres := zi_p c_109 hres
            refine lv_iconst (v := 0) hx hb d_H_fits_116 (by decide) ?_
            obtain rfl := Option.some.inj hres
            exact W.zret (v := 0) (ty := .boolean) hx hb hr rfl (fun t ht hW => ⟨_, rfl, rfl, ht⟩) (fun _ hq => by cases hq) d_H_fits_117
          · have hres := zi_n c_109 hres
            refine lv_iconst (v := 1) hx hb d_H_fits_112 (by decide) ?_
            refine lv_goto (tgt := 117) hx hb d_H_fits_113 (by decide) ?_
            obtain rfl := Option.some.inj hres
            exact W.zret (v := 1) (ty := .boolean) hx hb hr rfl (fun t ht hW => ⟨_, rfl, rfl, ht⟩) (fun _ hq => by cases hq) d_H_fits_117
        · have hres := zi_n c_1_3 hres
          by_cases c_1_4 : k = 7
          · have hres := zi_p c_1_4 hres
            refine lv_tableIn (off := 122) (tgt := 123) hx hb d_H_fits_1 (by rw [c_1_4]; decide) (by rw [c_1_4]; decide) (by rw [c_1_4]; decide) (by decide) ?_
            refine lv_iconst (v := 1) hx hb d_H_fits_123 (by decide) ?_
            obtain rfl := Option.some.inj hres
            exact W.zret (v := 1) (ty := .boolean) hx hb hr rfl (fun t ht hW => ⟨_, rfl, rfl, ht⟩) (fun _ hq => by cases hq) d_H_fits_124
          · have hres := zi_n c_1_4 hres
            by_cases c_1_5 : k = 8
            · have hres := zi_p c_1_5 hres
              refine lv_tableIn (off := 117) (tgt := 118) hx hb d_H_fits_1 (by rw [c_1_5]; decide) (by rw [c_1_5]; decide) (by rw [c_1_5]; decide) (by decide) ?_
              refine lv_aload_n hx hb d_H_fits_118 rfl (lv_at hl 0 rfl) ?_
              refine va_get (D := D) (ci := 0) (v := .int x.2.2.2.2.2.2.1) (C := R_T) (T := T_T) (N := 10) hx hb hts in_T hown hK hP (0) rfl rfl 6 (by decide) (hts _ k_83) (fun _ h9 => h9) rfl d_H_fits_119 ?_
              by_cases kz_122 : zb_z x.2.2.2.2.2.2.1
              · have hres := zi_p kz_122 hres
                have hz_122 := zb_n kz_122
                obtain rfl := Option.some.inj hres
                exact W.zret (v := x.2.2.2.2.2.2.1) (ty := .boolean) hx hb hr hz_122 (fun t ht hW => ⟨_, rfl, rfl, ht⟩) (fun _ hq => by cases hq) d_H_fits_122
              · exact absurd (zi_n kz_122 hres) (by simp)
            · have hres := zi_n c_1_5 hres
              have e_1_0 := lv_neT c_1_0 (a := 3) (by decide)
              have e_1_1 := lv_neT c_1_1 (a := 4) (by decide)
              have e_1_2 := lv_neT c_1_2 (a := 5) (by decide)
              have e_1_3 := lv_neT c_1_3 (a := 6) (by decide)
              have e_1_4 := lv_neT c_1_4 (a := 7) (by decide)
              have e_1_5 := lv_neT c_1_5 (a := 8) (by decide)
              refine lv_tableOut (tgt := 123) hx hb d_H_fits_1 (by omega) (by decide) ?_
              refine lv_iconst (v := 1) hx hb d_H_fits_123 (by decide) ?_
              obtain rfl := Option.some.inj hres
              exact W.zret (v := 1) (ty := .boolean) hx hb hr rfl (fun t ht hW => ⟨_, rfl, rfl, ht⟩) (fun _ hq => by cases hq) d_H_fits_124
abbrev qd_H_apply (D : va_G) (tys : List (ClassId × FieldType)) (h0 : Nat) (x : TreeV) (k : Int32) (z : Int64) (j : Int32) (v : TreeV) (A : Nat → Prop) : Array Value → State → Outcome → State → Prop := va_Qv (fun _ : Unit => True) (fun _ t => zwd D tys (A) ([(h0, zcT v)] ++ []) t) (A)

def f_H_apply (x : TreeV) (k : Int32) (z : Int64) (j : Int32) : Option (TreeV) :=
  if k = 0 then
    some ((x.1 + z), x.2.1, x.2.2.1, x.2.2.2.1, x.2.2.2.2.1, x.2.2.2.2.2.1, x.2.2.2.2.2.2.1, x.2.2.2.2.2.2.2.1, x.2.2.2.2.2.2.2.2.1, x.2.2.2.2.2.2.2.2.2)
  else
    if k = 1 then
      some (x.1, z.toInt32, j, x.2.2.2.1, x.2.2.2.2.1, x.2.2.2.2.2.1, x.2.2.2.2.2.2.1, x.2.2.2.2.2.2.2.1, x.2.2.2.2.2.2.2.2.1, x.2.2.2.2.2.2.2.2.2)
    else
      if k = 2 then
        some (x.1, x.2.1, x.2.2.1, z.toInt32, x.2.2.2.2.1, x.2.2.2.2.2.1, x.2.2.2.2.2.2.1, x.2.2.2.2.2.2.2.1, x.2.2.2.2.2.2.2.2.1, x.2.2.2.2.2.2.2.2.2)
      else
        if k = 3 then
          some (x.1, x.2.1, x.2.2.1, x.2.2.2.1, (x.2.2.2.2.1 ||| (1 <<< (z.toInt32 &&& 31))), x.2.2.2.2.2.1, x.2.2.2.2.2.2.1, x.2.2.2.2.2.2.2.1, x.2.2.2.2.2.2.2.2.1, x.2.2.2.2.2.2.2.2.2)
        else
          if k = 4 then
            some (x.1, x.2.1, x.2.2.1, x.2.2.2.1, (x.2.2.2.2.1 &&& ((1 <<< (z.toInt32 &&& 31)) ^^^ (-1))), x.2.2.2.2.2.1, x.2.2.2.2.2.2.1, x.2.2.2.2.2.2.2.1, x.2.2.2.2.2.2.2.2.1, x.2.2.2.2.2.2.2.2.2)
          else
            if k = 5 then
              Option.bind (f_Q_length x.2.2.2.2.2.1) (fun v140 =>
                Option.bind (f_Q_withElement x.2.2.2.2.2.1 v140 z.toInt32) (fun v145 =>
                  some (x.1, x.2.1, x.2.2.1, x.2.2.2.1, x.2.2.2.2.1, v145, x.2.2.2.2.2.2.1, x.2.2.2.2.2.2.2.1, x.2.2.2.2.2.2.2.2.1, x.2.2.2.2.2.2.2.2.2)))
            else
              if k = 6 then
                Option.bind (f_Q_withoutFirst x.2.2.2.2.2.1) (fun v159 =>
                  some (x.1, x.2.1, x.2.2.1, x.2.2.2.1, x.2.2.2.2.1, v159, x.2.2.2.2.2.2.1, x.2.2.2.2.2.2.2.1, x.2.2.2.2.2.2.2.2.1, x.2.2.2.2.2.2.2.2.2))
              else
                if k = 7 then
                  some (x.1, x.2.1, x.2.2.1, x.2.2.2.1, x.2.2.2.2.1, x.2.2.2.2.2.1, 1, (x.2.2.2.2.2.2.2.1 + z), x.2.2.2.2.2.2.2.2.1, x.2.2.2.2.2.2.2.2.2)
                else
                  if k = 8 then
                    some (x.1, x.2.1, x.2.2.1, x.2.2.2.1, x.2.2.2.2.1, x.2.2.2.2.2.1, 0, 0, x.2.2.2.2.2.2.2.2.1, x.2.2.2.2.2.2.2.2.2)
                  else
                    if k = 9 then
                      some (x.1, x.2.1, x.2.2.1, x.2.2.2.1, x.2.2.2.2.1, x.2.2.2.2.2.1, x.2.2.2.2.2.2.1, x.2.2.2.2.2.2.2.1, (x.2.2.2.2.2.2.2.2.1 + z), x.2.2.2.2.2.2.2.2.2)
                    else
                      if k = 10 then
                        some (x.1, x.2.1, x.2.2.1, x.2.2.2.1, x.2.2.2.2.1, x.2.2.2.2.2.1, x.2.2.2.2.2.2.1, x.2.2.2.2.2.2.2.1, x.2.2.2.2.2.2.2.2.1, z.toInt32)
                      else
                        some x
set_option maxHeartbeats 4000000 in
set_option maxRecDepth 100000 in
theorem c_H_apply (l : Launch) (D : va_G) (tys : List (ClassId × FieldType)) (sz : Nat) (h0 : Nat) (x : TreeV) (k : Int32) (z : Int64) (j : Int32) (v : TreeV) (hres : f_H_apply x k z j = some v) : Met l y_H_apply w_H_apply ({ frames := 2, cells := 0, slots := 0, locals := 44 } : Room) (va_Pc ([.ref h0, .int k, .long z, .int j]) (zrw D tys sz ([(h0, zcT x)] ++ []))) (qd_H_apply D tys h0 x k z j v (va_A ([(h0, zcT x)] ++ []) sz)) 0 0 (va_A ([(h0, zcT x)] ++ []) sz) := by
  refine Met.ofW (cc := b_H_apply) (maxL := 5) (ret := none) (by decide) rfl ?_
  intro p e s m args below meth c s₁ B hml hv
  obtain ⟨rfl, hsz, hP, hK, hD0, hN⟩ := hv
  have hx := B.exec
  have hb := B.bytes
  have hr := B.returns
  have hts : ∀ w ∈ zt, w.before ([.ref h0, .int k, .long z, .int j].toArray) s = true := fun w h => atoms_spec (ws := w_H_apply) B.pre w (List.mem_cons_of_mem _ h)
  have hown : s.vm.findClass R_H = some m.cls := findClass_of_methodNamed B.named
  have hlocks := B.notSynchronized
  subst hsz
  have hD := hD0.self (sz := s.heap.size)
  generalize hAe : va_A ([(h0, zcT x)] ++ []) s.heap.size = A at hD ⊢
  have hA : ∀ q : Nat, s.heap.size ≤ q → A q := fun q h => by rw [← hAe]; exact Or.inr h
  have hS : va_S A s.heap s.heap [] := va_S.rf
  have hP : va_P D vwCl ([(h0, zcT x)]) s.heap := hP
  have hD : va_D A ([(h0, zcT x)]) := hD
  have hl := lv_entry ([.ref h0, .int k, .long z, .int j]) (n := 5) (Nat.le_of_ble_eq_true rfl)
  rw [lg_entry_eq]
  generalize (lg_sl ([.ref h0, .int k, .long z, .int j]) ++ List.replicate (5 - (lg_sl ([.ref h0, .int k, .long z, .int j])).length) Slot.unset).toArray = ls at hl ⊢
  have hl : lv_has ls 5 [(0, .ref h0), (1, .int k), (2, .long z), (4, .int j)] := hl
  unfold f_H_apply at hres
  refine lv_iload_n hx hb d_H_apply_0 rfl (lv_at hl 1 rfl) ?_
  by_cases c_1_0 : k = 0
  · have hres := zi_p c_1_0 hres
    refine lv_tableIn (off := 59) (tgt := 60) hx hb d_H_apply_1 (by rw [c_1_0]; decide) (by rw [c_1_0]; decide) (by rw [c_1_0]; decide) (by decide) ?_
    refine lv_aload_n hx hb d_H_apply_60 rfl (lv_at hl 0 rfl) ?_
    refine lv_dup hx hb d_H_apply_61 rfl ?_
    refine va_get (D := D) (ci := 0) (v := .long x.1) (C := R_T) (T := T_T) (N := 10) hx hb hts in_T hown hK hP (0) rfl rfl 0 (by decide) (hts _ k_56) (fun _ h9 => h9) rfl d_H_apply_62 ?_
    refine lv_lload_n hx hb d_H_apply_65 rfl (lv_at hl 2 rfl) ?_
    refine lv_ladd hx hb d_H_apply_66 ?_
    refine va_put (D := D) (ci := 0) (v := .long (x.1 + z)) (ty := .long) (C := R_T) (T := T_T) (N := 10) hx hb hts in_T ty_T ok_T nm_T hown hK hP hD hS 0 rfl rfl 0 (by decide) (hts _ k_56) (fun _ h9 => h9) rfl (by decide +kernel) rfl rfl (Nat.le_of_ble_eq_true rfl) d_H_apply_67 (fun H locs hP hD hS => ?_)
    have hP : va_P D vwCl ([(h0, .inr (0, [.long (x.1 + z), .int x.2.1, .int x.2.2.1, .int x.2.2.2.1, .int x.2.2.2.2.1, .long x.2.2.2.2.2.1, .int x.2.2.2.2.2.2.1, .long x.2.2.2.2.2.2.2.1, .long x.2.2.2.2.2.2.2.2.1, .int x.2.2.2.2.2.2.2.2.2]))]) H := hP
    have hD : va_D A ([(h0, .inr (0, [.long (x.1 + z), .int x.2.1, .int x.2.2.1, .int x.2.2.2.1, .int x.2.2.2.2.1, .long x.2.2.2.2.2.1, .int x.2.2.2.2.2.2.1, .long x.2.2.2.2.2.2.2.1, .long x.2.2.2.2.2.2.2.2.1, .int x.2.2.2.2.2.2.2.2.2]))]) := hD
    refine lv_goto (tgt := 221) hx hb d_H_apply_70 (by decide) ?_
    obtain rfl := Option.some.inj hres
    exact W.vret hx hb hr (fun t ht hW => ⟨⟨(), rfl, trivial, by rw [ht]; exact hP, va_K.moved hW.alike hK, hD⟩, hS.F ht⟩) hS.2.2 d_H_apply_221
  · have hres := zi_n c_1_0 hres
    by_cases c_1_1 : k = 1
    · have hres := zi_p c_1_1 hres
      refine lv_tableIn (off := 72) (tgt := 73) hx hb d_H_apply_1 (by rw [c_1_1]; decide) (by rw [c_1_1]; decide) (by rw [c_1_1]; decide) (by decide) ?_
      refine lv_aload_n hx hb d_H_apply_73 rfl (lv_at hl 0 rfl) ?_
      refine lv_lload_n hx hb d_H_apply_74 rfl (lv_at hl 2 rfl) ?_
      refine lv_l2i (v := z.toInt32) hx hb d_H_apply_75 rfl ?_
      refine va_put (D := D) (ci := 0) (v := .int z.toInt32) (ty := .int) (C := R_T) (T := T_T) (N := 10) hx hb hts in_T ty_T ok_T nm_T hown hK hP hD hS 0 rfl rfl 1 (by decide) (hts _ k_60) (fun _ h9 => h9) rfl (by decide +kernel) rfl rfl (Nat.le_of_ble_eq_true rfl) d_H_apply_76 (fun H locs hP hD hS => ?_)
      have hP : va_P D vwCl ([(h0, .inr (0, [.long x.1, .int z.toInt32, .int x.2.2.1, .int x.2.2.2.1, .int x.2.2.2.2.1, .long x.2.2.2.2.2.1, .int x.2.2.2.2.2.2.1, .long x.2.2.2.2.2.2.2.1, .long x.2.2.2.2.2.2.2.2.1, .int x.2.2.2.2.2.2.2.2.2]))]) H := hP
      have hD : va_D A ([(h0, .inr (0, [.long x.1, .int z.toInt32, .int x.2.2.1, .int x.2.2.2.1, .int x.2.2.2.2.1, .long x.2.2.2.2.2.1, .int x.2.2.2.2.2.2.1, .long x.2.2.2.2.2.2.2.1, .long x.2.2.2.2.2.2.2.2.1, .int x.2.2.2.2.2.2.2.2.2]))]) := hD
      refine lv_aload_n hx hb d_H_apply_79 rfl (lv_at hl 0 rfl) ?_
      refine lv_iload hx hb d_H_apply_80 (lv_at hl 3 rfl) ?_
      refine va_put (D := D) (ci := 0) (v := .int j) (ty := .int) (C := R_T) (T := T_T) (N := 10) hx hb hts in_T ty_T ok_T nm_T hown hK hP hD hS 0 rfl rfl 2 (by decide) (hts _ k_65) (fun _ h9 => h9) rfl (by decide +kernel) rfl rfl (Nat.le_of_ble_eq_true rfl) d_H_apply_82 (fun H locs hP hD hS => ?_)
      have hP : va_P D vwCl ([(h0, .inr (0, [.long x.1, .int z.toInt32, .int j, .int x.2.2.2.1, .int x.2.2.2.2.1, .long x.2.2.2.2.2.1, .int x.2.2.2.2.2.2.1, .long x.2.2.2.2.2.2.2.1, .long x.2.2.2.2.2.2.2.2.1, .int x.2.2.2.2.2.2.2.2.2]))]) H := hP
      have hD : va_D A ([(h0, .inr (0, [.long x.1, .int z.toInt32, .int j, .int x.2.2.2.1, .int x.2.2.2.2.1, .long x.2.2.2.2.2.1, .int x.2.2.2.2.2.2.1, .long x.2.2.2.2.2.2.2.1, .long x.2.2.2.2.2.2.2.2.1, .int x.2.2.2.2.2.2.2.2.2]))]) := hD
      refine lv_goto (tgt := 221) hx hb d_H_apply_85 (by decide) ?_
      obtain rfl := Option.some.inj hres
      exact W.vret hx hb hr (fun t ht hW => ⟨⟨(), rfl, trivial, by rw [ht]; exact hP, va_K.moved hW.alike hK, hD⟩, hS.F ht⟩) hS.2.2 d_H_apply_221
    · have hres := zi_n c_1_1 hres
      by_cases c_1_2 : k = 2
      · have hres := zi_p c_1_2 hres
        refine lv_tableIn (off := 87) (tgt := 88) hx hb d_H_apply_1 (by rw [c_1_2]; decide) (by rw [c_1_2]; decide) (by rw [c_1_2]; decide) (by decide) ?_
        refine lv_aload_n hx hb d_H_apply_88 rfl (lv_at hl 0 rfl) ?_
        refine lv_lload_n hx hb d_H_apply_89 rfl (lv_at hl 2 rfl) ?_
        refine lv_l2i (v := z.toInt32) hx hb d_H_apply_90 rfl ?_
        refine va_put (D := D) (ci := 0) (v := .int z.toInt32) (ty := .int) (C := R_T) (T := T_T) (N := 10) hx hb hts in_T ty_T ok_T nm_T hown hK hP hD hS 0 rfl rfl 3 (by decide) (hts _ k_71) (fun _ h9 => h9) rfl (by decide +kernel) rfl rfl (Nat.le_of_ble_eq_true rfl) d_H_apply_91 (fun H locs hP hD hS => ?_)
        have hP : va_P D vwCl ([(h0, .inr (0, [.long x.1, .int x.2.1, .int x.2.2.1, .int z.toInt32, .int x.2.2.2.2.1, .long x.2.2.2.2.2.1, .int x.2.2.2.2.2.2.1, .long x.2.2.2.2.2.2.2.1, .long x.2.2.2.2.2.2.2.2.1, .int x.2.2.2.2.2.2.2.2.2]))]) H := hP
        have hD : va_D A ([(h0, .inr (0, [.long x.1, .int x.2.1, .int x.2.2.1, .int z.toInt32, .int x.2.2.2.2.1, .long x.2.2.2.2.2.1, .int x.2.2.2.2.2.2.1, .long x.2.2.2.2.2.2.2.1, .long x.2.2.2.2.2.2.2.2.1, .int x.2.2.2.2.2.2.2.2.2]))]) := hD
        refine lv_goto (tgt := 221) hx hb d_H_apply_94 (by decide) ?_
        obtain rfl := Option.some.inj hres
        exact W.vret hx hb hr (fun t ht hW => ⟨⟨(), rfl, trivial, by rw [ht]; exact hP, va_K.moved hW.alike hK, hD⟩, hS.F ht⟩) hS.2.2 d_H_apply_221
      · have hres := zi_n c_1_2 hres
        by_cases c_1_3 : k = 3
        · have hres := zi_p c_1_3 hres
          refine lv_tableIn (off := 96) (tgt := 97) hx hb d_H_apply_1 (by rw [c_1_3]; decide) (by rw [c_1_3]; decide) (by rw [c_1_3]; decide) (by decide) ?_
          refine lv_aload_n hx hb d_H_apply_97 rfl (lv_at hl 0 rfl) ?_
          refine lv_dup hx hb d_H_apply_98 rfl ?_
          refine va_get (D := D) (ci := 0) (v := .int x.2.2.2.2.1) (C := R_T) (T := T_T) (N := 10) hx hb hts in_T hown hK hP (0) rfl rfl 4 (by decide) (hts _ k_76) (fun _ h9 => h9) rfl d_H_apply_99 ?_
          refine lv_iconst (v := 1) hx hb d_H_apply_102 (by decide) ?_
          refine lv_lload_n hx hb d_H_apply_103 rfl (lv_at hl 2 rfl) ?_
          refine lv_l2i (v := z.toInt32) hx hb d_H_apply_104 rfl ?_
          refine lv_ishl hx hb d_H_apply_105 ?_
          refine lv_ior hx hb d_H_apply_106 ?_
          refine va_put (D := D) (ci := 0) (v := .int (x.2.2.2.2.1 ||| (1 <<< (z.toInt32 &&& 31)))) (ty := .int) (C := R_T) (T := T_T) (N := 10) hx hb hts in_T ty_T ok_T nm_T hown hK hP hD hS 0 rfl rfl 4 (by decide) (hts _ k_76) (fun _ h9 => h9) rfl (by decide +kernel) rfl rfl (Nat.le_of_ble_eq_true rfl) d_H_apply_107 (fun H locs hP hD hS => ?_)
          have hP : va_P D vwCl ([(h0, .inr (0, [.long x.1, .int x.2.1, .int x.2.2.1, .int x.2.2.2.1, .int (x.2.2.2.2.1 ||| (1 <<< (z.toInt32 &&& 31))), .long x.2.2.2.2.2.1, .int x.2.2.2.2.2.2.1, .long x.2.2.2.2.2.2.2.1, .long x.2.2.2.2.2.2.2.2.1, .int x.2.2.2.2.2.2.2.2.2]))]) H := hP
          have hD : va_D A ([(h0, .inr (0, [.long x.1, .int x.2.1, .int x.2.2.1, .int x.2.2.2.1, .int (x.2.2.2.2.1 ||| (1 <<< (z.toInt32 &&& 31))), .long x.2.2.2.2.2.1, .int x.2.2.2.2.2.2.1, .long x.2.2.2.2.2.2.2.1, .long x.2.2.2.2.2.2.2.2.1, .int x.2.2.2.2.2.2.2.2.2]))]) := hD
          refine lv_goto (tgt := 221) hx hb d_H_apply_110 (by decide) ?_
          obtain rfl := Option.some.inj hres
          exact W.vret hx hb hr (fun t ht hW => ⟨⟨(), rfl, trivial, by rw [ht]; exact hP, va_K.moved hW.alike hK, hD⟩, hS.F ht⟩) hS.2.2 d_H_apply_221
        · have hres := zi_n c_1_3 hres
          by_cases c_1_4 : k = 4
          · have hres := zi_p c_1_4 hres
            refine lv_tableIn (off := 112) (tgt := 113) hx hb d_H_apply_1 (by rw [c_1_4]; decide) (by rw [c_1_4]; decide) (by rw [c_1_4]; decide) (by decide) ?_
            refine lv_aload_n hx hb d_H_apply_113 rfl (lv_at hl 0 rfl) ?_
            refine lv_dup hx hb d_H_apply_114 rfl ?_
            refine va_get (D := D) (ci := 0) (v := .int x.2.2.2.2.1) (C := R_T) (T := T_T) (N := 10) hx hb hts in_T hown hK hP (0) rfl rfl 4 (by decide) (hts _ k_76) (fun _ h9 => h9) rfl d_H_apply_115 ?_
            refine lv_iconst (v := 1) hx hb d_H_apply_118 (by decide) ?_
            refine lv_lload_n hx hb d_H_apply_119 rfl (lv_at hl 2 rfl) ?_
            refine lv_l2i (v := z.toInt32) hx hb d_H_apply_120 rfl ?_
            refine lv_ishl hx hb d_H_apply_121 ?_
            refine lv_iconst (v := (-1)) hx hb d_H_apply_122 (by decide) ?_
            refine lv_ixor hx hb d_H_apply_123 ?_
            refine lv_iand hx hb d_H_apply_124 ?_
            refine va_put (D := D) (ci := 0) (v := .int (x.2.2.2.2.1 &&& ((1 <<< (z.toInt32 &&& 31)) ^^^ (-1)))) (ty := .int) (C := R_T) (T := T_T) (N := 10) hx hb hts in_T ty_T ok_T nm_T hown hK hP hD hS 0 rfl rfl 4 (by decide) (hts _ k_76) (fun _ h9 => h9) rfl (by decide +kernel) rfl rfl (Nat.le_of_ble_eq_true rfl) d_H_apply_125 (fun H locs hP hD hS => ?_)
            have hP : va_P D vwCl ([(h0, .inr (0, [.long x.1, .int x.2.1, .int x.2.2.1, .int x.2.2.2.1, .int (x.2.2.2.2.1 &&& ((1 <<< (z.toInt32 &&& 31)) ^^^ (-1))), .long x.2.2.2.2.2.1, .int x.2.2.2.2.2.2.1, .long x.2.2.2.2.2.2.2.1, .long x.2.2.2.2.2.2.2.2.1, .int x.2.2.2.2.2.2.2.2.2]))]) H := hP
            have hD : va_D A ([(h0, .inr (0, [.long x.1, .int x.2.1, .int x.2.2.1, .int x.2.2.2.1, .int (x.2.2.2.2.1 &&& ((1 <<< (z.toInt32 &&& 31)) ^^^ (-1))), .long x.2.2.2.2.2.1, .int x.2.2.2.2.2.2.1, .long x.2.2.2.2.2.2.2.1, .long x.2.2.2.2.2.2.2.2.1, .int x.2.2.2.2.2.2.2.2.2]))]) := hD
            refine lv_goto (tgt := 221) hx hb d_H_apply_128 (by decide) ?_
            obtain rfl := Option.some.inj hres
            exact W.vret hx hb hr (fun t ht hW => ⟨⟨(), rfl, trivial, by rw [ht]; exact hP, va_K.moved hW.alike hK, hD⟩, hS.F ht⟩) hS.2.2 d_H_apply_221
          · have hres := zi_n c_1_4 hres
            by_cases c_1_5 : k = 5
            · have hres := zi_p c_1_5 hres
              refine lv_tableIn (off := 130) (tgt := 131) hx hb d_H_apply_1 (by rw [c_1_5]; decide) (by rw [c_1_5]; decide) (by rw [c_1_5]; decide) (by decide) ?_
              refine lv_aload_n hx hb d_H_apply_131 rfl (lv_at hl 0 rfl) ?_
              refine lv_aload_n hx hb d_H_apply_132 rfl (lv_at hl 0 rfl) ?_
              refine va_get (D := D) (ci := 0) (v := .long x.2.2.2.2.2.1) (C := R_T) (T := T_T) (N := 10) hx hb hts in_T hown hK hP (0) rfl rfl 5 (by decide) (hts _ k_79) (fun _ h9 => h9) rfl d_H_apply_133 ?_
              refine lv_aload_n hx hb d_H_apply_136 rfl (lv_at hl 0 rfl) ?_
              refine va_get (D := D) (ci := 0) (v := .long x.2.2.2.2.2.1) (C := R_T) (T := T_T) (N := 10) hx hb hts in_T hown hK hP (0) rfl rfl 5 (by decide) (hts _ k_79) (fun _ h9 => h9) rfl d_H_apply_137 ?_
              obtain ⟨v140, hc140, hres⟩ := zo_b hres
              refine vp_callSi (va_Run.run (va_runS (As := [.long x.2.2.2.2.2.1]) (rest := [.long x.2.2.2.2.2.1, .ref h0]) ⟨hx, hb, hml, hown, hts⟩ (c_Q_length l D tys x.2.2.2.2.2.1 v140 hc140) (va_cwS 1 hts (zg_S k_205 k_206 k_34 g_Q_length) rfl rfl rfl hd_Q_length ⟨Nat.le_of_ble_eq_true rfl, Nat.le_of_ble_eq_true rfl⟩) ⟨zro_b _, zro_p va_Pnil hK hN _⟩ rfl rfl hl.1 rfl (lv_room (Nat.le_of_ble_eq_true rfl)) d_H_apply_140 ⟨Nat.zero_le _, Nat.zero_le _⟩)) (fun r_140 er_140 => ?_)
              have er_140 := er_140.symm
              subst er_140
              refine lv_lload_n hx hb d_H_apply_143 rfl (lv_at hl 2 rfl) ?_
              refine lv_l2i (v := z.toInt32) hx hb d_H_apply_144 rfl ?_
              obtain ⟨v145, hc145, hres⟩ := zo_b hres
              refine vp_callSl (va_Run.run (va_runS (As := [.long x.2.2.2.2.2.1, .int v140, .int z.toInt32]) (rest := [.ref h0]) ⟨hx, hb, hml, hown, hts⟩ (c_Q_withElement l D tys x.2.2.2.2.2.1 v140 z.toInt32 v145 hc145) (va_cwS 3 hts (zg_S k_215 k_216 k_34 g_Q_withElement) rfl rfl rfl hd_Q_withElement ⟨Nat.le_of_ble_eq_true rfl, Nat.le_of_ble_eq_true rfl⟩) ⟨zro_b _, zro_p va_Pnil hK hN _⟩ rfl rfl hl.1 rfl (lv_room (Nat.le_of_ble_eq_true rfl)) d_H_apply_145 ⟨Nat.zero_le _, Nat.zero_le _⟩)) (fun r_145 er_145 => ?_)
              have er_145 := er_145.symm
              subst er_145
              refine va_put (D := D) (ci := 0) (v := .long v145) (ty := .long) (C := R_T) (T := T_T) (N := 10) hx hb hts in_T ty_T ok_T nm_T hown hK hP hD hS 0 rfl rfl 5 (by decide) (hts _ k_79) (fun _ h9 => h9) rfl (by decide +kernel) rfl rfl (Nat.le_of_ble_eq_true rfl) d_H_apply_148 (fun H locs hP hD hS => ?_)
              have hP : va_P D vwCl ([(h0, .inr (0, [.long x.1, .int x.2.1, .int x.2.2.1, .int x.2.2.2.1, .int x.2.2.2.2.1, .long v145, .int x.2.2.2.2.2.2.1, .long x.2.2.2.2.2.2.2.1, .long x.2.2.2.2.2.2.2.2.1, .int x.2.2.2.2.2.2.2.2.2]))]) H := hP
              have hD : va_D A ([(h0, .inr (0, [.long x.1, .int x.2.1, .int x.2.2.1, .int x.2.2.2.1, .int x.2.2.2.2.1, .long v145, .int x.2.2.2.2.2.2.1, .long x.2.2.2.2.2.2.2.1, .long x.2.2.2.2.2.2.2.2.1, .int x.2.2.2.2.2.2.2.2.2]))]) := hD
              refine lv_goto (tgt := 221) hx hb d_H_apply_151 (by decide) ?_
              obtain rfl := Option.some.inj hres
              exact W.vret hx hb hr (fun t ht hW => ⟨⟨(), rfl, trivial, by rw [ht]; exact hP, va_K.moved hW.alike hK, hD⟩, hS.F ht⟩) hS.2.2 d_H_apply_221
            · have hres := zi_n c_1_5 hres
              by_cases c_1_6 : k = 6
              · have hres := zi_p c_1_6 hres
                refine lv_tableIn (off := 153) (tgt := 154) hx hb d_H_apply_1 (by rw [c_1_6]; decide) (by rw [c_1_6]; decide) (by rw [c_1_6]; decide) (by decide) ?_
                refine lv_aload_n hx hb d_H_apply_154 rfl (lv_at hl 0 rfl) ?_
                refine lv_aload_n hx hb d_H_apply_155 rfl (lv_at hl 0 rfl) ?_
                refine va_get (D := D) (ci := 0) (v := .long x.2.2.2.2.2.1) (C := R_T) (T := T_T) (N := 10) hx hb hts in_T hown hK hP (0) rfl rfl 5 (by decide) (hts _ k_79) (fun _ h9 => h9) rfl d_H_apply_156 ?_
                obtain ⟨v159, hc159, hres⟩ := zo_b hres
                refine vp_callSl (va_Run.run (va_runS (As := [.long x.2.2.2.2.2.1]) (rest := [.ref h0]) ⟨hx, hb, hml, hown, hts⟩ (c_Q_withoutFirst l D tys x.2.2.2.2.2.1 v159 hc159) (va_cwS 1 hts (zg_S k_218 k_219 k_34 g_Q_withoutFirst) rfl rfl rfl hd_Q_withoutFirst ⟨Nat.le_of_ble_eq_true rfl, Nat.le_of_ble_eq_true rfl⟩) ⟨zro_b _, zro_p va_Pnil hK hN _⟩ rfl rfl hl.1 rfl (lv_room (Nat.le_of_ble_eq_true rfl)) d_H_apply_159 ⟨Nat.zero_le _, Nat.zero_le _⟩)) (fun r_159 er_159 => ?_)
                have er_159 := er_159.symm
                subst er_159
                refine va_put (D := D) (ci := 0) (v := .long v159) (ty := .long) (C := R_T) (T := T_T) (N := 10) hx hb hts in_T ty_T ok_T nm_T hown hK hP hD hS 0 rfl rfl 5 (by decide) (hts _ k_79) (fun _ h9 => h9) rfl (by decide +kernel) rfl rfl (Nat.le_of_ble_eq_true rfl) d_H_apply_162 (fun H locs hP hD hS => ?_)
                have hP : va_P D vwCl ([(h0, .inr (0, [.long x.1, .int x.2.1, .int x.2.2.1, .int x.2.2.2.1, .int x.2.2.2.2.1, .long v159, .int x.2.2.2.2.2.2.1, .long x.2.2.2.2.2.2.2.1, .long x.2.2.2.2.2.2.2.2.1, .int x.2.2.2.2.2.2.2.2.2]))]) H := hP
                have hD : va_D A ([(h0, .inr (0, [.long x.1, .int x.2.1, .int x.2.2.1, .int x.2.2.2.1, .int x.2.2.2.2.1, .long v159, .int x.2.2.2.2.2.2.1, .long x.2.2.2.2.2.2.2.1, .long x.2.2.2.2.2.2.2.2.1, .int x.2.2.2.2.2.2.2.2.2]))]) := hD
                refine lv_goto (tgt := 221) hx hb d_H_apply_165 (by decide) ?_
                obtain rfl := Option.some.inj hres
                exact W.vret hx hb hr (fun t ht hW => ⟨⟨(), rfl, trivial, by rw [ht]; exact hP, va_K.moved hW.alike hK, hD⟩, hS.F ht⟩) hS.2.2 d_H_apply_221
              · have hres := zi_n c_1_6 hres
                by_cases c_1_7 : k = 7
                · have hres := zi_p c_1_7 hres
                  refine lv_tableIn (off := 167) (tgt := 168) hx hb d_H_apply_1 (by rw [c_1_7]; decide) (by rw [c_1_7]; decide) (by rw [c_1_7]; decide) (by decide) ?_
                  refine lv_aload_n hx hb d_H_apply_168 rfl (lv_at hl 0 rfl) ?_
                  refine lv_iconst (v := 1) hx hb d_H_apply_169 (by decide) ?_
                  refine va_put (D := D) (ci := 0) (v := .int 1) (ty := .boolean) (C := R_T) (T := T_T) (N := 10) hx hb hts in_T ty_T ok_T nm_T hown hK hP hD hS 0 rfl rfl 6 (by decide) (hts _ k_83) (fun _ h9 => h9) rfl (by decide +kernel) rfl rfl (Nat.le_of_ble_eq_true rfl) d_H_apply_170 (fun H locs hP hD hS => ?_)
                  have hP : va_P D vwCl ([(h0, .inr (0, [.long x.1, .int x.2.1, .int x.2.2.1, .int x.2.2.2.1, .int x.2.2.2.2.1, .long x.2.2.2.2.2.1, .int 1, .long x.2.2.2.2.2.2.2.1, .long x.2.2.2.2.2.2.2.2.1, .int x.2.2.2.2.2.2.2.2.2]))]) H := hP
                  have hD : va_D A ([(h0, .inr (0, [.long x.1, .int x.2.1, .int x.2.2.1, .int x.2.2.2.1, .int x.2.2.2.2.1, .long x.2.2.2.2.2.1, .int 1, .long x.2.2.2.2.2.2.2.1, .long x.2.2.2.2.2.2.2.2.1, .int x.2.2.2.2.2.2.2.2.2]))]) := hD
                  refine lv_aload_n hx hb d_H_apply_173 rfl (lv_at hl 0 rfl) ?_
                  refine lv_dup hx hb d_H_apply_174 rfl ?_
                  refine va_get (D := D) (ci := 0) (v := .long x.2.2.2.2.2.2.2.1) (C := R_T) (T := T_T) (N := 10) hx hb hts in_T hown hK hP (0) rfl rfl 7 (by decide) (hts _ k_88) (fun _ h9 => h9) rfl d_H_apply_175 ?_
                  refine lv_lload_n hx hb d_H_apply_178 rfl (lv_at hl 2 rfl) ?_
                  refine lv_ladd hx hb d_H_apply_179 ?_
                  refine va_put (D := D) (ci := 0) (v := .long (x.2.2.2.2.2.2.2.1 + z)) (ty := .long) (C := R_T) (T := T_T) (N := 10) hx hb hts in_T ty_T ok_T nm_T hown hK hP hD hS 0 rfl rfl 7 (by decide) (hts _ k_88) (fun _ h9 => h9) rfl (by decide +kernel) rfl rfl (Nat.le_of_ble_eq_true rfl) d_H_apply_180 (fun H locs hP hD hS => ?_)
                  have hP : va_P D vwCl ([(h0, .inr (0, [.long x.1, .int x.2.1, .int x.2.2.1, .int x.2.2.2.1, .int x.2.2.2.2.1, .long x.2.2.2.2.2.1, .int 1, .long (x.2.2.2.2.2.2.2.1 + z), .long x.2.2.2.2.2.2.2.2.1, .int x.2.2.2.2.2.2.2.2.2]))]) H := hP
                  have hD : va_D A ([(h0, .inr (0, [.long x.1, .int x.2.1, .int x.2.2.1, .int x.2.2.2.1, .int x.2.2.2.2.1, .long x.2.2.2.2.2.1, .int 1, .long (x.2.2.2.2.2.2.2.1 + z), .long x.2.2.2.2.2.2.2.2.1, .int x.2.2.2.2.2.2.2.2.2]))]) := hD
                  refine lv_goto (tgt := 221) hx hb d_H_apply_183 (by decide) ?_
                  obtain rfl := Option.some.inj hres
                  exact W.vret hx hb hr (fun t ht hW => ⟨⟨(), rfl, trivial, by rw [ht]; exact hP, va_K.moved hW.alike hK, hD⟩, hS.F ht⟩) hS.2.2 d_H_apply_221
                · have hres := zi_n c_1_7 hres
                  by_cases c_1_8 : k = 8
                  · have hres := zi_p c_1_8 hres
                    refine lv_tableIn (off := 185) (tgt := 186) hx hb d_H_apply_1 (by rw [c_1_8]; decide) (by rw [c_1_8]; decide) (by rw [c_1_8]; decide) (by decide) ?_
                    refine lv_aload_n hx hb d_H_apply_186 rfl (lv_at hl 0 rfl) ?_
                    refine lv_iconst (v := 0) hx hb d_H_apply_187 (by decide) ?_
                    refine va_put (D := D) (ci := 0) (v := .int 0) (ty := .boolean) (C := R_T) (T := T_T) (N := 10) hx hb hts in_T ty_T ok_T nm_T hown hK hP hD hS 0 rfl rfl 6 (by decide) (hts _ k_83) (fun _ h9 => h9) rfl (by decide +kernel) rfl rfl (Nat.le_of_ble_eq_true rfl) d_H_apply_188 (fun H locs hP hD hS => ?_)
                    have hP : va_P D vwCl ([(h0, .inr (0, [.long x.1, .int x.2.1, .int x.2.2.1, .int x.2.2.2.1, .int x.2.2.2.2.1, .long x.2.2.2.2.2.1, .int 0, .long x.2.2.2.2.2.2.2.1, .long x.2.2.2.2.2.2.2.2.1, .int x.2.2.2.2.2.2.2.2.2]))]) H := hP
                    have hD : va_D A ([(h0, .inr (0, [.long x.1, .int x.2.1, .int x.2.2.1, .int x.2.2.2.1, .int x.2.2.2.2.1, .long x.2.2.2.2.2.1, .int 0, .long x.2.2.2.2.2.2.2.1, .long x.2.2.2.2.2.2.2.2.1, .int x.2.2.2.2.2.2.2.2.2]))]) := hD
                    refine lv_aload_n hx hb d_H_apply_191 rfl (lv_at hl 0 rfl) ?_
                    refine lv_lconst (v := 0) hx hb d_H_apply_192 (by decide) ?_
                    refine va_put (D := D) (ci := 0) (v := .long 0) (ty := .long) (C := R_T) (T := T_T) (N := 10) hx hb hts in_T ty_T ok_T nm_T hown hK hP hD hS 0 rfl rfl 7 (by decide) (hts _ k_88) (fun _ h9 => h9) rfl (by decide +kernel) rfl rfl (Nat.le_of_ble_eq_true rfl) d_H_apply_193 (fun H locs hP hD hS => ?_)
                    have hP : va_P D vwCl ([(h0, .inr (0, [.long x.1, .int x.2.1, .int x.2.2.1, .int x.2.2.2.1, .int x.2.2.2.2.1, .long x.2.2.2.2.2.1, .int 0, .long 0, .long x.2.2.2.2.2.2.2.2.1, .int x.2.2.2.2.2.2.2.2.2]))]) H := hP
                    have hD : va_D A ([(h0, .inr (0, [.long x.1, .int x.2.1, .int x.2.2.1, .int x.2.2.2.1, .int x.2.2.2.2.1, .long x.2.2.2.2.2.1, .int 0, .long 0, .long x.2.2.2.2.2.2.2.2.1, .int x.2.2.2.2.2.2.2.2.2]))]) := hD
                    refine lv_goto (tgt := 221) hx hb d_H_apply_196 (by decide) ?_
                    obtain rfl := Option.some.inj hres
                    exact W.vret hx hb hr (fun t ht hW => ⟨⟨(), rfl, trivial, by rw [ht]; exact hP, va_K.moved hW.alike hK, hD⟩, hS.F ht⟩) hS.2.2 d_H_apply_221
                  · have hres := zi_n c_1_8 hres
                    by_cases c_1_9 : k = 9
                    · have hres := zi_p c_1_9 hres
                      refine lv_tableIn (off := 198) (tgt := 199) hx hb d_H_apply_1 (by rw [c_1_9]; decide) (by rw [c_1_9]; decide) (by rw [c_1_9]; decide) (by decide) ?_
                      refine lv_aload_n hx hb d_H_apply_199 rfl (lv_at hl 0 rfl) ?_
                      refine lv_dup hx hb d_H_apply_200 rfl ?_
                      refine va_get (D := D) (ci := 0) (v := .long x.2.2.2.2.2.2.2.2.1) (C := R_T) (T := T_T) (N := 10) hx hb hts in_T hown hK hP (0) rfl rfl 8 (by decide) (hts _ k_94) (fun _ h9 => h9) rfl d_H_apply_201 ?_
                      refine lv_lload_n hx hb d_H_apply_204 rfl (lv_at hl 2 rfl) ?_
                      refine lv_ladd hx hb d_H_apply_205 ?_
                      refine va_put (D := D) (ci := 0) (v := .long (x.2.2.2.2.2.2.2.2.1 + z)) (ty := .long) (C := R_T) (T := T_T) (N := 10) hx hb hts in_T ty_T ok_T nm_T hown hK hP hD hS 0 rfl rfl 8 (by decide) (hts _ k_94) (fun _ h9 => h9) rfl (by decide +kernel) rfl rfl (Nat.le_of_ble_eq_true rfl) d_H_apply_206 (fun H locs hP hD hS => ?_)
                      have hP : va_P D vwCl ([(h0, .inr (0, [.long x.1, .int x.2.1, .int x.2.2.1, .int x.2.2.2.1, .int x.2.2.2.2.1, .long x.2.2.2.2.2.1, .int x.2.2.2.2.2.2.1, .long x.2.2.2.2.2.2.2.1, .long (x.2.2.2.2.2.2.2.2.1 + z), .int x.2.2.2.2.2.2.2.2.2]))]) H := hP
                      have hD : va_D A ([(h0, .inr (0, [.long x.1, .int x.2.1, .int x.2.2.1, .int x.2.2.2.1, .int x.2.2.2.2.1, .long x.2.2.2.2.2.1, .int x.2.2.2.2.2.2.1, .long x.2.2.2.2.2.2.2.1, .long (x.2.2.2.2.2.2.2.2.1 + z), .int x.2.2.2.2.2.2.2.2.2]))]) := hD
                      refine lv_goto (tgt := 221) hx hb d_H_apply_209 (by decide) ?_
                      obtain rfl := Option.some.inj hres
                      exact W.vret hx hb hr (fun t ht hW => ⟨⟨(), rfl, trivial, by rw [ht]; exact hP, va_K.moved hW.alike hK, hD⟩, hS.F ht⟩) hS.2.2 d_H_apply_221
                    · have hres := zi_n c_1_9 hres
                      by_cases c_1_10 : k = 10
                      · have hres := zi_p c_1_10 hres
                        refine lv_tableIn (off := 211) (tgt := 212) hx hb d_H_apply_1 (by rw [c_1_10]; decide) (by rw [c_1_10]; decide) (by rw [c_1_10]; decide) (by decide) ?_
                        refine lv_aload_n hx hb d_H_apply_212 rfl (lv_at hl 0 rfl) ?_
                        refine lv_lload_n hx hb d_H_apply_213 rfl (lv_at hl 2 rfl) ?_
                        refine lv_l2i (v := z.toInt32) hx hb d_H_apply_214 rfl ?_
                        refine va_put (D := D) (ci := 0) (v := .int z.toInt32) (ty := .int) (C := R_T) (T := T_T) (N := 10) hx hb hts in_T ty_T ok_T nm_T hown hK hP hD hS 0 rfl rfl 9 (by decide) (hts _ k_99) (fun _ h9 => h9) rfl (by decide +kernel) rfl rfl (Nat.le_of_ble_eq_true rfl) d_H_apply_215 (fun H locs hP hD hS => ?_)
                        have hP : va_P D vwCl ([(h0, .inr (0, [.long x.1, .int x.2.1, .int x.2.2.1, .int x.2.2.2.1, .int x.2.2.2.2.1, .long x.2.2.2.2.2.1, .int x.2.2.2.2.2.2.1, .long x.2.2.2.2.2.2.2.1, .long x.2.2.2.2.2.2.2.2.1, .int z.toInt32]))]) H := hP
                        have hD : va_D A ([(h0, .inr (0, [.long x.1, .int x.2.1, .int x.2.2.1, .int x.2.2.2.1, .int x.2.2.2.2.1, .long x.2.2.2.2.2.1, .int x.2.2.2.2.2.2.1, .long x.2.2.2.2.2.2.2.1, .long x.2.2.2.2.2.2.2.2.1, .int z.toInt32]))]) := hD
                        refine lv_goto (tgt := 221) hx hb d_H_apply_218 (by decide) ?_
                        obtain rfl := Option.some.inj hres
                        exact W.vret hx hb hr (fun t ht hW => ⟨⟨(), rfl, trivial, by rw [ht]; exact hP, va_K.moved hW.alike hK, hD⟩, hS.F ht⟩) hS.2.2 d_H_apply_221
                      · have hres := zi_n c_1_10 hres
                        have e_1_0 := lv_neT c_1_0 (a := 0) (by decide)
                        have e_1_1 := lv_neT c_1_1 (a := 1) (by decide)
                        have e_1_2 := lv_neT c_1_2 (a := 2) (by decide)
                        have e_1_3 := lv_neT c_1_3 (a := 3) (by decide)
                        have e_1_4 := lv_neT c_1_4 (a := 4) (by decide)
                        have e_1_5 := lv_neT c_1_5 (a := 5) (by decide)
                        have e_1_6 := lv_neT c_1_6 (a := 6) (by decide)
                        have e_1_7 := lv_neT c_1_7 (a := 7) (by decide)
                        have e_1_8 := lv_neT c_1_8 (a := 8) (by decide)
                        have e_1_9 := lv_neT c_1_9 (a := 9) (by decide)
                        have e_1_10 := lv_neT c_1_10 (a := 10) (by decide)
                        refine lv_tableOut (tgt := 221) hx hb d_H_apply_1 (by omega) (by decide) ?_
                        obtain rfl := Option.some.inj hres
                        exact W.vret hx hb hr (fun t ht hW => ⟨⟨(), rfl, trivial, by rw [ht]; exact hP, va_K.moved hW.alike hK, hD⟩, hS.F ht⟩) hS.2.2 d_H_apply_221
def J_C_hashWithTree_70 (x : TreeV) (v53 : Int64) (j70_s0 : Int64) : Option (Int64) :=
  Option.bind (f_C_mixed v53 j70_s0) (fun v70 =>
    Option.bind (f_C_mixed v70 x.2.2.2.2.2.2.2.1) (fun v79 =>
      Option.bind (f_C_mixed v79 x.2.2.2.2.2.2.2.2.1) (fun v88 =>
        Option.bind (f_C_mixed v88 x.2.2.2.2.2.2.2.2.2.toInt64) (fun v98 =>
          some v98))))
def f_C_hashWithTree (z : Int64) (x : TreeV) : Option (Int64) :=
  Option.bind (f_C_mixed z x.1) (fun v5 =>
    Option.bind (f_C_mixed v5 x.2.1.toInt64) (fun v15 =>
      Option.bind (f_C_mixed v15 x.2.2.1.toInt64) (fun v25 =>
        Option.bind (f_C_mixed v25 x.2.2.2.1.toInt64) (fun v35 =>
          Option.bind (f_T_setAsSum x) (fun v41 =>
            Option.bind (f_C_mixed v35 v41) (fun v44 =>
              Option.bind (f_C_mixed v44 x.2.2.2.2.2.1) (fun v53 =>
                if x.2.2.2.2.2.2.1 = 0 then
                  J_C_hashWithTree_70 x v53 0
                else
                  J_C_hashWithTree_70 x v53 1)))))))
set_option maxHeartbeats 4000000 in
set_option maxRecDepth 100000 in
theorem c_C_hashWithTree (l : Launch) (D : va_G) (tys : List (ClassId × FieldType)) (h0 : Nat) (z : Int64) (x : TreeV) (v : Int64) (hres : f_C_hashWithTree z x = some v) : Met l y_C_hashWithTree w_C_hashWithTree ({ frames := 1, cells := 0, slots := 0, locals := 26 } : Room) (va_Pc ([.long z, .ref h0]) (zro D tys ([(h0, zcT x)]))) (vp_Sl (fun r : Int64 => r = v)) 0 0 (fun _ => False) := by
  refine Met.ofW (cc := b_C_hashWithTree) (maxL := 5) (ret := (some .long)) (by decide) rfl ?_
  intro p e s m args below meth c s₁ B hml hv
  obtain ⟨rfl, hP, hK, hN⟩ := hv
  have hx := B.exec
  have hb := B.bytes
  have hr := B.returns
  have hts : ∀ w ∈ zt, w.before ([.long z, .ref h0].toArray) s = true := fun w h => atoms_spec (ws := w_C_hashWithTree) B.pre w (List.mem_cons_of_mem _ h)
  have hown : s.vm.findClass R_C = some m.cls := findClass_of_methodNamed B.named
  have hlocks := B.notSynchronized
  have hl := lv_entry ([.long z, .ref h0]) (n := 5) (Nat.le_of_ble_eq_true rfl)
  rw [lg_entry_eq]
  generalize (lg_sl ([.long z, .ref h0]) ++ List.replicate (5 - (lg_sl ([.long z, .ref h0])).length) Slot.unset).toArray = ls at hl ⊢
  have hl : lv_has ls 5 [(0, .long z), (2, .ref h0)] := hl
  unfold f_C_hashWithTree at hres
  refine lv_lload_n hx hb d_C_hashWithTree_0 rfl (lv_at hl 0 rfl) ?_
  refine lv_aload_n hx hb d_C_hashWithTree_1 rfl (lv_at hl 1 rfl) ?_
  refine va_get (D := D) (ci := 0) (v := .long x.1) (C := R_T) (T := T_T) (N := 10) hx hb hts in_T hown hK hP (0) rfl rfl 0 (by decide) (hts _ k_57) (fun _ h9 => h9) rfl d_C_hashWithTree_2 ?_
  obtain ⟨v5, hc5, hres⟩ := zo_b hres
  refine vp_callSl (va_Run.run (va_runS (As := [.long z, .long x.1]) (rest := []) ⟨hx, hb, hml, hown, hts⟩ (c_C_mixed l D tys z x.1 v5 hc5) (va_cwS 2 hts (zg_S k_240 k_241 k_35 g_C_mixed) rfl rfl rfl hd_C_mixed ⟨Nat.le_of_ble_eq_true rfl, Nat.le_of_ble_eq_true rfl⟩) ⟨zro_b _, zro_p va_Pnil hK hN _⟩ rfl rfl hl.1 rfl (lv_room (Nat.le_of_ble_eq_true rfl)) d_C_hashWithTree_5 ⟨Nat.zero_le _, Nat.zero_le _⟩)) (fun r_5 er_5 => ?_)
  have er_5 := er_5.symm
  subst er_5
  refine lv_lstore_n (lv' := [(3, .long v5), (0, .long z), (2, .ref h0)]) hx hb d_C_hashWithTree_8 rfl hl (by decide) rfl (fun ls hl => ?_)
  refine lv_lload_n hx hb d_C_hashWithTree_9 rfl (lv_at hl 0 rfl) ?_
  refine lv_aload_n hx hb d_C_hashWithTree_10 rfl (lv_at hl 2 rfl) ?_
  refine va_get (D := D) (ci := 0) (v := .int x.2.1) (C := R_T) (T := T_T) (N := 10) hx hb hts in_T hown hK hP (0) rfl rfl 1 (by decide) (hts _ k_61) (fun _ h9 => h9) rfl d_C_hashWithTree_11 ?_
  refine lv_i2l (v := x.2.1.toInt64) hx hb d_C_hashWithTree_14 rfl ?_
  obtain ⟨v15, hc15, hres⟩ := zo_b hres
  refine vp_callSl (va_Run.run (va_runS (As := [.long v5, .long x.2.1.toInt64]) (rest := []) ⟨hx, hb, hml, hown, hts⟩ (c_C_mixed l D tys v5 x.2.1.toInt64 v15 hc15) (va_cwS 2 hts (zg_S k_240 k_241 k_35 g_C_mixed) rfl rfl rfl hd_C_mixed ⟨Nat.le_of_ble_eq_true rfl, Nat.le_of_ble_eq_true rfl⟩) ⟨zro_b _, zro_p va_Pnil hK hN _⟩ rfl rfl hl.1 rfl (lv_room (Nat.le_of_ble_eq_true rfl)) d_C_hashWithTree_15 ⟨Nat.zero_le _, Nat.zero_le _⟩)) (fun r_15 er_15 => ?_)
  have er_15 := er_15.symm
  subst er_15
  refine lv_lstore_n (lv' := [(3, .long v15), (0, .long z), (2, .ref h0)]) hx hb d_C_hashWithTree_18 rfl hl (by decide) rfl (fun ls hl => ?_)
  refine lv_lload_n hx hb d_C_hashWithTree_19 rfl (lv_at hl 0 rfl) ?_
  refine lv_aload_n hx hb d_C_hashWithTree_20 rfl (lv_at hl 2 rfl) ?_
  refine va_get (D := D) (ci := 0) (v := .int x.2.2.1) (C := R_T) (T := T_T) (N := 10) hx hb hts in_T hown hK hP (0) rfl rfl 2 (by decide) (hts _ k_66) (fun _ h9 => h9) rfl d_C_hashWithTree_21 ?_
  refine lv_i2l (v := x.2.2.1.toInt64) hx hb d_C_hashWithTree_24 rfl ?_
  obtain ⟨v25, hc25, hres⟩ := zo_b hres
  refine vp_callSl (va_Run.run (va_runS (As := [.long v15, .long x.2.2.1.toInt64]) (rest := []) ⟨hx, hb, hml, hown, hts⟩ (c_C_mixed l D tys v15 x.2.2.1.toInt64 v25 hc25) (va_cwS 2 hts (zg_S k_240 k_241 k_35 g_C_mixed) rfl rfl rfl hd_C_mixed ⟨Nat.le_of_ble_eq_true rfl, Nat.le_of_ble_eq_true rfl⟩) ⟨zro_b _, zro_p va_Pnil hK hN _⟩ rfl rfl hl.1 rfl (lv_room (Nat.le_of_ble_eq_true rfl)) d_C_hashWithTree_25 ⟨Nat.zero_le _, Nat.zero_le _⟩)) (fun r_25 er_25 => ?_)
  have er_25 := er_25.symm
  subst er_25
  refine lv_lstore_n (lv' := [(3, .long v25), (0, .long z), (2, .ref h0)]) hx hb d_C_hashWithTree_28 rfl hl (by decide) rfl (fun ls hl => ?_)
  refine lv_lload_n hx hb d_C_hashWithTree_29 rfl (lv_at hl 0 rfl) ?_
  refine lv_aload_n hx hb d_C_hashWithTree_30 rfl (lv_at hl 2 rfl) ?_
  refine va_get (D := D) (ci := 0) (v := .int x.2.2.2.1) (C := R_T) (T := T_T) (N := 10) hx hb hts in_T hown hK hP (0) rfl rfl 3 (by decide) (hts _ k_72) (fun _ h9 => h9) rfl d_C_hashWithTree_31 ?_
  refine lv_i2l (v := x.2.2.2.1.toInt64) hx hb d_C_hashWithTree_34 rfl ?_
  obtain ⟨v35, hc35, hres⟩ := zo_b hres
  refine vp_callSl (va_Run.run (va_runS (As := [.long v25, .long x.2.2.2.1.toInt64]) (rest := []) ⟨hx, hb, hml, hown, hts⟩ (c_C_mixed l D tys v25 x.2.2.2.1.toInt64 v35 hc35) (va_cwS 2 hts (zg_S k_240 k_241 k_35 g_C_mixed) rfl rfl rfl hd_C_mixed ⟨Nat.le_of_ble_eq_true rfl, Nat.le_of_ble_eq_true rfl⟩) ⟨zro_b _, zro_p va_Pnil hK hN _⟩ rfl rfl hl.1 rfl (lv_room (Nat.le_of_ble_eq_true rfl)) d_C_hashWithTree_35 ⟨Nat.zero_le _, Nat.zero_le _⟩)) (fun r_35 er_35 => ?_)
  have er_35 := er_35.symm
  subst er_35
  refine lv_lstore_n (lv' := [(3, .long v35), (0, .long z), (2, .ref h0)]) hx hb d_C_hashWithTree_38 rfl hl (by decide) rfl (fun ls hl => ?_)
  refine lv_lload_n hx hb d_C_hashWithTree_39 rfl (lv_at hl 0 rfl) ?_
  refine lv_aload_n hx hb d_C_hashWithTree_40 rfl (lv_at hl 2 rfl) ?_
  obtain ⟨v41, hc41, hres⟩ := zo_b hres
  have hPc := zsubP hP (wc := [(h0, zcT x)]) (is := [0]) (zcons rfl znil)
  refine vp_callSl (va_Run.run (va_runV (As := []) (rest := [.long v35]) ⟨hx, hb, hml, hown, hts⟩ (c_T_setAsSum l D tys h0 x v41 hc41) (cwV 0 hts (zg_V k_249 k_191 k_192 k_30 g_T_setAsSum) rfl rfl rfl ⟨rfl, hd_T_setAsSum⟩ ⟨Nat.le_of_ble_eq_true rfl, Nat.le_of_ble_eq_true rfl⟩) ⟨zro_b _, va_recv hK hPc (q0 := 0) rfl rfl, zro_p hPc hK hN _⟩ rfl rfl hl.1 rfl (lv_room (Nat.le_of_ble_eq_true rfl)) d_C_hashWithTree_41 ⟨Nat.zero_le _, Nat.zero_le _⟩)) (fun r_41 er_41 => ?_)
  have er_41 := er_41.symm
  subst er_41
  obtain ⟨v44, hc44, hres⟩ := zo_b hres
  refine vp_callSl (va_Run.run (va_runS (As := [.long v35, .long v41]) (rest := []) ⟨hx, hb, hml, hown, hts⟩ (c_C_mixed l D tys v35 v41 v44 hc44) (va_cwS 2 hts (zg_S k_240 k_241 k_35 g_C_mixed) rfl rfl rfl hd_C_mixed ⟨Nat.le_of_ble_eq_true rfl, Nat.le_of_ble_eq_true rfl⟩) ⟨zro_b _, zro_p va_Pnil hK hN _⟩ rfl rfl hl.1 rfl (lv_room (Nat.le_of_ble_eq_true rfl)) d_C_hashWithTree_44 ⟨Nat.zero_le _, Nat.zero_le _⟩)) (fun r_44 er_44 => ?_)
  have er_44 := er_44.symm
  subst er_44
  refine lv_lstore_n (lv' := [(3, .long v44), (0, .long z), (2, .ref h0)]) hx hb d_C_hashWithTree_47 rfl hl (by decide) rfl (fun ls hl => ?_)
  refine lv_lload_n hx hb d_C_hashWithTree_48 rfl (lv_at hl 0 rfl) ?_
  refine lv_aload_n hx hb d_C_hashWithTree_49 rfl (lv_at hl 2 rfl) ?_
  refine va_get (D := D) (ci := 0) (v := .long x.2.2.2.2.2.1) (C := R_T) (T := T_T) (N := 10) hx hb hts in_T hown hK hP (0) rfl rfl 5 (by decide) (hts _ k_80) (fun _ h9 => h9) rfl d_C_hashWithTree_50 ?_
  obtain ⟨v53, hc53, hres⟩ := zo_b hres
  refine vp_callSl (va_Run.run (va_runS (As := [.long v44, .long x.2.2.2.2.2.1]) (rest := []) ⟨hx, hb, hml, hown, hts⟩ (c_C_mixed l D tys v44 x.2.2.2.2.2.1 v53 hc53) (va_cwS 2 hts (zg_S k_240 k_241 k_35 g_C_mixed) rfl rfl rfl hd_C_mixed ⟨Nat.le_of_ble_eq_true rfl, Nat.le_of_ble_eq_true rfl⟩) ⟨zro_b _, zro_p va_Pnil hK hN _⟩ rfl rfl hl.1 rfl (lv_room (Nat.le_of_ble_eq_true rfl)) d_C_hashWithTree_53 ⟨Nat.zero_le _, Nat.zero_le _⟩)) (fun r_53 er_53 => ?_)
  have er_53 := er_53.symm
  subst er_53
  refine lv_lstore_n (lv' := [(3, .long v53), (0, .long z), (2, .ref h0)]) hx hb d_C_hashWithTree_56 rfl hl (by decide) rfl (fun ls hl => ?_)
  refine lv_lload_n hx hb d_C_hashWithTree_57 rfl (lv_at hl 0 rfl) ?_
  refine lv_aload_n hx hb d_C_hashWithTree_58 rfl (lv_at hl 2 rfl) ?_
  refine va_get (D := D) (ci := 0) (v := .int x.2.2.2.2.2.2.1) (C := R_T) (T := T_T) (N := 10) hx hb hts in_T hown hK hP (0) rfl rfl 6 (by decide) (hts _ k_84) (fun _ h9 => h9) rfl d_C_hashWithTree_59 ?_
  have hj70 : ∀ (j70_s0 : Int64) (ls : Array Slot), lv_has ls 5 [(3, .long v53), (0, .long z), (2, .ref h0)] → J_C_hashWithTree_70 x v53 j70_s0 = some v → W p l e (headSpec w_C_hashWithTree ({ frames := 1, cells := 0, slots := 0, locals := 26 } : Room)).room s m ([.long z, .ref h0].toArray) below meth c s.heap [] 0 0 (MQ below (vp_Sl (fun r : Int64 => r = v)) ([.long z, .ref h0].toArray) s 0 0 (fun _ => False)) (F0 m 70 ls [.long j70_s0, .long v53]) := by
    intro j70_s0 ls hl hres
    unfold J_C_hashWithTree_70 at hres
    obtain ⟨v70, hc70, hres⟩ := zo_b hres
    refine vp_callSl (va_Run.run (va_runS (As := [.long v53, .long j70_s0]) (rest := []) ⟨hx, hb, hml, hown, hts⟩ (c_C_mixed l D tys v53 j70_s0 v70 hc70) (va_cwS 2 hts (zg_S k_240 k_241 k_35 g_C_mixed) rfl rfl rfl hd_C_mixed ⟨Nat.le_of_ble_eq_true rfl, Nat.le_of_ble_eq_true rfl⟩) ⟨zro_b _, zro_p va_Pnil hK hN _⟩ rfl rfl hl.1 rfl (lv_room (Nat.le_of_ble_eq_true rfl)) d_C_hashWithTree_70 ⟨Nat.zero_le _, Nat.zero_le _⟩)) (fun r_70 er_70 => ?_)
    have er_70 := er_70.symm
    subst er_70
    refine lv_lstore_n (lv' := [(3, .long v70), (0, .long z), (2, .ref h0)]) hx hb d_C_hashWithTree_73 rfl hl (by decide) rfl (fun ls hl => ?_)
    refine lv_lload_n hx hb d_C_hashWithTree_74 rfl (lv_at hl 0 rfl) ?_
    refine lv_aload_n hx hb d_C_hashWithTree_75 rfl (lv_at hl 2 rfl) ?_
    refine va_get (D := D) (ci := 0) (v := .long x.2.2.2.2.2.2.2.1) (C := R_T) (T := T_T) (N := 10) hx hb hts in_T hown hK hP (0) rfl rfl 7 (by decide) (hts _ k_89) (fun _ h9 => h9) rfl d_C_hashWithTree_76 ?_
    obtain ⟨v79, hc79, hres⟩ := zo_b hres
    refine vp_callSl (va_Run.run (va_runS (As := [.long v70, .long x.2.2.2.2.2.2.2.1]) (rest := []) ⟨hx, hb, hml, hown, hts⟩ (c_C_mixed l D tys v70 x.2.2.2.2.2.2.2.1 v79 hc79) (va_cwS 2 hts (zg_S k_240 k_241 k_35 g_C_mixed) rfl rfl rfl hd_C_mixed ⟨Nat.le_of_ble_eq_true rfl, Nat.le_of_ble_eq_true rfl⟩) ⟨zro_b _, zro_p va_Pnil hK hN _⟩ rfl rfl hl.1 rfl (lv_room (Nat.le_of_ble_eq_true rfl)) d_C_hashWithTree_79 ⟨Nat.zero_le _, Nat.zero_le _⟩)) (fun r_79 er_79 => ?_)
    have er_79 := er_79.symm
    subst er_79
    refine lv_lstore_n (lv' := [(3, .long v79), (0, .long z), (2, .ref h0)]) hx hb d_C_hashWithTree_82 rfl hl (by decide) rfl (fun ls hl => ?_)
    refine lv_lload_n hx hb d_C_hashWithTree_83 rfl (lv_at hl 0 rfl) ?_
    refine lv_aload_n hx hb d_C_hashWithTree_84 rfl (lv_at hl 2 rfl) ?_
    refine va_get (D := D) (ci := 0) (v := .long x.2.2.2.2.2.2.2.2.1) (C := R_T) (T := T_T) (N := 10) hx hb hts in_T hown hK hP (0) rfl rfl 8 (by decide) (hts _ k_95) (fun _ h9 => h9) rfl d_C_hashWithTree_85 ?_
    obtain ⟨v88, hc88, hres⟩ := zo_b hres
    refine vp_callSl (va_Run.run (va_runS (As := [.long v79, .long x.2.2.2.2.2.2.2.2.1]) (rest := []) ⟨hx, hb, hml, hown, hts⟩ (c_C_mixed l D tys v79 x.2.2.2.2.2.2.2.2.1 v88 hc88) (va_cwS 2 hts (zg_S k_240 k_241 k_35 g_C_mixed) rfl rfl rfl hd_C_mixed ⟨Nat.le_of_ble_eq_true rfl, Nat.le_of_ble_eq_true rfl⟩) ⟨zro_b _, zro_p va_Pnil hK hN _⟩ rfl rfl hl.1 rfl (lv_room (Nat.le_of_ble_eq_true rfl)) d_C_hashWithTree_88 ⟨Nat.zero_le _, Nat.zero_le _⟩)) (fun r_88 er_88 => ?_)
    have er_88 := er_88.symm
    subst er_88
    refine lv_lstore_n (lv' := [(3, .long v88), (0, .long z), (2, .ref h0)]) hx hb d_C_hashWithTree_91 rfl hl (by decide) rfl (fun ls hl => ?_)
    refine lv_lload_n hx hb d_C_hashWithTree_92 rfl (lv_at hl 0 rfl) ?_
    refine lv_aload_n hx hb d_C_hashWithTree_93 rfl (lv_at hl 2 rfl) ?_
    refine va_get (D := D) (ci := 0) (v := .int x.2.2.2.2.2.2.2.2.2) (C := R_T) (T := T_T) (N := 10) hx hb hts in_T hown hK hP (0) rfl rfl 9 (by decide) (hts _ k_100) (fun _ h9 => h9) rfl d_C_hashWithTree_94 ?_
    refine lv_i2l (v := x.2.2.2.2.2.2.2.2.2.toInt64) hx hb d_C_hashWithTree_97 rfl ?_
    obtain ⟨v98, hc98, hres⟩ := zo_b hres
    refine vp_callSl (va_Run.run (va_runS (As := [.long v88, .long x.2.2.2.2.2.2.2.2.2.toInt64]) (rest := []) ⟨hx, hb, hml, hown, hts⟩ (c_C_mixed l D tys v88 x.2.2.2.2.2.2.2.2.2.toInt64 v98 hc98) (va_cwS 2 hts (zg_S k_240 k_241 k_35 g_C_mixed) rfl rfl rfl hd_C_mixed ⟨Nat.le_of_ble_eq_true rfl, Nat.le_of_ble_eq_true rfl⟩) ⟨zro_b _, zro_p va_Pnil hK hN _⟩ rfl rfl hl.1 rfl (lv_room (Nat.le_of_ble_eq_true rfl)) d_C_hashWithTree_98 ⟨Nat.zero_le _, Nat.zero_le _⟩)) (fun r_98 er_98 => ?_)
    have er_98 := er_98.symm
    subst er_98
    obtain rfl := Option.some.inj hres
    exact W.lret (v := v98) hx hb hr (fun t ht hW => ⟨_, rfl, rfl, ht⟩) (fun _ hq => by cases hq) d_C_hashWithTree_101
  refine lv_if_eq (tgt := 69) hx hb d_C_hashWithTree_62 (by decide) (fun c_62 => ?_) (fun c_62 => ?_)
  · have hres := zi_p c_62 hres
    refine lv_lconst (v := 0) hx hb d_C_hashWithTree_69 (by decide) ?_
    exact hj70 0 ls (lv_sub hl [0, 1, 2] rfl) hres
  · have hres := zi_n c_62 hres
    refine lv_lconst (v := 1) hx hb d_C_hashWithTree_65 (by decide) ?_
    refine lv_goto (tgt := 70) hx hb d_C_hashWithTree_66 (by decide) ?_
    exact hj70 1 ls (lv_sub hl [0, 1, 2] rfl) hres
abbrev qd_M_mergeLatest (D : va_G) (tys : List (ClassId × FieldType)) (h0 : Nat) (h1 : Nat) (x : TreeV) (y : TreeV) (v : TreeV) (A : Nat → Prop) : Array Value → State → Outcome → State → Prop := va_Qv (fun _ : Unit => True) (fun _ t => zwd D tys (A) ([(h0, zcT v)] ++ [(h1, zcT y)]) t) (A)

def f_M_mergeLatest (x : TreeV) (y : TreeV) : Option (TreeV) :=
  if x.2.2.1 < y.2.2.1 then
    some (x.1, y.2.1, y.2.2.1, x.2.2.2.1, x.2.2.2.2.1, x.2.2.2.2.2.1, x.2.2.2.2.2.2.1, x.2.2.2.2.2.2.2.1, x.2.2.2.2.2.2.2.2.1, x.2.2.2.2.2.2.2.2.2)
  else
    if y.2.2.1 = x.2.2.1 then
      if y.2.1 ≤ x.2.1 then
        some x
      else
        some (x.1, y.2.1, y.2.2.1, x.2.2.2.1, x.2.2.2.2.1, x.2.2.2.2.2.1, x.2.2.2.2.2.2.1, x.2.2.2.2.2.2.2.1, x.2.2.2.2.2.2.2.2.1, x.2.2.2.2.2.2.2.2.2)
    else
      some x
set_option maxHeartbeats 4000000 in
set_option maxRecDepth 100000 in
theorem c_M_mergeLatest (l : Launch) (D : va_G) (tys : List (ClassId × FieldType)) (sz : Nat) (h0 : Nat) (h1 : Nat) (x : TreeV) (y : TreeV) (v : TreeV) (hres : f_M_mergeLatest x y = some v) : Met l y_M_mergeLatest w_M_mergeLatest ({ frames := 0, cells := 0, slots := 0, locals := 0 } : Room) (va_Pc ([.ref h0, .ref h1]) (zrw D tys sz ([(h0, zcT x)] ++ [(h1, zcT y)]))) (qd_M_mergeLatest D tys h0 h1 x y v (va_A ([(h0, zcT x)] ++ [(h1, zcT y)]) sz)) 0 0 (va_A ([(h0, zcT x)] ++ [(h1, zcT y)]) sz) := by
  refine Met.ofW (cc := b_M_mergeLatest) (maxL := 2) (ret := none) (by decide) rfl ?_
  intro p e s m args below meth c s₁ B hml hv
  obtain ⟨rfl, hsz, hP, hK, hD0, hN⟩ := hv
  have hx := B.exec
  have hb := B.bytes
  have hr := B.returns
  have hts : ∀ w ∈ zt, w.before ([.ref h0, .ref h1].toArray) s = true := fun w h => atoms_spec (ws := w_M_mergeLatest) B.pre w (List.mem_cons_of_mem _ h)
  have hown : s.vm.findClass R_M = some m.cls := findClass_of_methodNamed B.named
  have hlocks := B.notSynchronized
  subst hsz
  have hD := hD0.self (sz := s.heap.size)
  generalize hAe : va_A ([(h0, zcT x)] ++ [(h1, zcT y)]) s.heap.size = A at hD ⊢
  have hA : ∀ q : Nat, s.heap.size ≤ q → A q := fun q h => by rw [← hAe]; exact Or.inr h
  have hS : va_S A s.heap s.heap [] := va_S.rf
  have hP : va_P D vwCl ([(h0, zcT x), (h1, zcT y)]) s.heap := hP
  have hD : va_D A ([(h0, zcT x), (h1, zcT y)]) := hD
  have hl := lv_entry ([.ref h0, .ref h1]) (n := 2) (Nat.le_of_ble_eq_true rfl)
  rw [lg_entry_eq]
  generalize (lg_sl ([.ref h0, .ref h1]) ++ List.replicate (2 - (lg_sl ([.ref h0, .ref h1])).length) Slot.unset).toArray = ls at hl ⊢
  have hl : lv_has ls 2 [(0, .ref h0), (1, .ref h1)] := hl
  unfold f_M_mergeLatest at hres
  refine lv_aload_n hx hb d_M_mergeLatest_0 rfl (lv_at hl 1 rfl) ?_
  refine va_get (D := D) (ci := 0) (v := .int y.2.2.1) (C := R_T) (T := T_T) (N := 10) hx hb hts in_T hown hK hP (1) rfl rfl 2 (by decide) (hts _ k_67) (fun _ h9 => h9) rfl d_M_mergeLatest_1 ?_
  refine lv_aload_n hx hb d_M_mergeLatest_4 rfl (lv_at hl 0 rfl) ?_
  refine va_get (D := D) (ci := 0) (v := .int x.2.2.1) (C := R_T) (T := T_T) (N := 10) hx hb hts in_T hown hK hP (0) rfl rfl 2 (by decide) (hts _ k_67) (fun _ h9 => h9) rfl d_M_mergeLatest_5 ?_
  refine lv_icmp_gt (tgt := 33) hx hb d_M_mergeLatest_8 (by decide) (fun c_8 => ?_) (fun c_8 => ?_)
  · have hres := zi_p c_8 hres
    refine lv_aload_n hx hb d_M_mergeLatest_33 rfl (lv_at hl 0 rfl) ?_
    refine lv_aload_n hx hb d_M_mergeLatest_34 rfl (lv_at hl 1 rfl) ?_
    refine va_get (D := D) (ci := 0) (v := .int y.2.1) (C := R_T) (T := T_T) (N := 10) hx hb hts in_T hown hK hP (1) rfl rfl 1 (by decide) (hts _ k_62) (fun _ h9 => h9) rfl d_M_mergeLatest_35 ?_
    refine va_put (D := D) (ci := 0) (v := .int y.2.1) (ty := .int) (C := R_T) (T := T_T) (N := 10) hx hb hts in_T ty_T ok_T nm_T hown hK hP hD hS 0 rfl rfl 1 (by decide) (hts _ k_62) (fun _ h9 => h9) rfl (by decide +kernel) rfl rfl (Nat.le_of_ble_eq_true rfl) d_M_mergeLatest_38 (fun H locs hP hD hS => ?_)
    have hP : va_P D vwCl ([(h0, .inr (0, [.long x.1, .int y.2.1, .int x.2.2.1, .int x.2.2.2.1, .int x.2.2.2.2.1, .long x.2.2.2.2.2.1, .int x.2.2.2.2.2.2.1, .long x.2.2.2.2.2.2.2.1, .long x.2.2.2.2.2.2.2.2.1, .int x.2.2.2.2.2.2.2.2.2])), (h1, zcT y)]) H := hP
    have hD : va_D A ([(h0, .inr (0, [.long x.1, .int y.2.1, .int x.2.2.1, .int x.2.2.2.1, .int x.2.2.2.2.1, .long x.2.2.2.2.2.1, .int x.2.2.2.2.2.2.1, .long x.2.2.2.2.2.2.2.1, .long x.2.2.2.2.2.2.2.2.1, .int x.2.2.2.2.2.2.2.2.2])), (h1, zcT y)]) := hD
    refine lv_aload_n hx hb d_M_mergeLatest_41 rfl (lv_at hl 0 rfl) ?_
    refine lv_aload_n hx hb d_M_mergeLatest_42 rfl (lv_at hl 1 rfl) ?_
    refine va_get (D := D) (ci := 0) (v := .int y.2.2.1) (C := R_T) (T := T_T) (N := 10) hx hb hts in_T hown hK hP (1) rfl rfl 2 (by decide) (hts _ k_67) (fun _ h9 => h9) rfl d_M_mergeLatest_43 ?_
    refine va_put (D := D) (ci := 0) (v := .int y.2.2.1) (ty := .int) (C := R_T) (T := T_T) (N := 10) hx hb hts in_T ty_T ok_T nm_T hown hK hP hD hS 0 rfl rfl 2 (by decide) (hts _ k_67) (fun _ h9 => h9) rfl (by decide +kernel) rfl rfl (Nat.le_of_ble_eq_true rfl) d_M_mergeLatest_46 (fun H locs hP hD hS => ?_)
    have hP : va_P D vwCl ([(h0, .inr (0, [.long x.1, .int y.2.1, .int y.2.2.1, .int x.2.2.2.1, .int x.2.2.2.2.1, .long x.2.2.2.2.2.1, .int x.2.2.2.2.2.2.1, .long x.2.2.2.2.2.2.2.1, .long x.2.2.2.2.2.2.2.2.1, .int x.2.2.2.2.2.2.2.2.2])), (h1, zcT y)]) H := hP
    have hD : va_D A ([(h0, .inr (0, [.long x.1, .int y.2.1, .int y.2.2.1, .int x.2.2.2.1, .int x.2.2.2.2.1, .long x.2.2.2.2.2.1, .int x.2.2.2.2.2.2.1, .long x.2.2.2.2.2.2.2.1, .long x.2.2.2.2.2.2.2.2.1, .int x.2.2.2.2.2.2.2.2.2])), (h1, zcT y)]) := hD
    obtain rfl := Option.some.inj hres
    exact W.vret hx hb hr (fun t ht hW => ⟨⟨(), rfl, trivial, by rw [ht]; exact hP, va_K.moved hW.alike hK, hD⟩, hS.F ht⟩) hS.2.2 d_M_mergeLatest_49
  · have hres := zi_n c_8 hres
    refine lv_aload_n hx hb d_M_mergeLatest_11 rfl (lv_at hl 1 rfl) ?_
    refine va_get (D := D) (ci := 0) (v := .int y.2.2.1) (C := R_T) (T := T_T) (N := 10) hx hb hts in_T hown hK hP (1) rfl rfl 2 (by decide) (hts _ k_67) (fun _ h9 => h9) rfl d_M_mergeLatest_12 ?_
    refine lv_aload_n hx hb d_M_mergeLatest_15 rfl (lv_at hl 0 rfl) ?_
    refine va_get (D := D) (ci := 0) (v := .int x.2.2.1) (C := R_T) (T := T_T) (N := 10) hx hb hts in_T hown hK hP (0) rfl rfl 2 (by decide) (hts _ k_67) (fun _ h9 => h9) rfl d_M_mergeLatest_16 ?_
    refine lv_icmp_ne (tgt := 49) hx hb d_M_mergeLatest_19 (by decide) (fun c_19 => ?_) (fun c_19 => ?_)
    · have hres := zi_n c_19 hres
      obtain rfl := Option.some.inj hres
      exact W.vret hx hb hr (fun t ht hW => ⟨⟨(), rfl, trivial, by rw [ht]; exact hP, va_K.moved hW.alike hK, hD⟩, hS.F ht⟩) hS.2.2 d_M_mergeLatest_49
    · have hres := zi_p c_19 hres
      refine lv_aload_n hx hb d_M_mergeLatest_22 rfl (lv_at hl 1 rfl) ?_
      refine va_get (D := D) (ci := 0) (v := .int y.2.1) (C := R_T) (T := T_T) (N := 10) hx hb hts in_T hown hK hP (1) rfl rfl 1 (by decide) (hts _ k_62) (fun _ h9 => h9) rfl d_M_mergeLatest_23 ?_
      refine lv_aload_n hx hb d_M_mergeLatest_26 rfl (lv_at hl 0 rfl) ?_
      refine va_get (D := D) (ci := 0) (v := .int x.2.1) (C := R_T) (T := T_T) (N := 10) hx hb hts in_T hown hK hP (0) rfl rfl 1 (by decide) (hts _ k_62) (fun _ h9 => h9) rfl d_M_mergeLatest_27 ?_
      refine lv_icmp_le (tgt := 49) hx hb d_M_mergeLatest_30 (by decide) (fun c_30 => ?_) (fun c_30 => ?_)
      · have hres := zi_p c_30 hres
        obtain rfl := Option.some.inj hres
        exact W.vret hx hb hr (fun t ht hW => ⟨⟨(), rfl, trivial, by rw [ht]; exact hP, va_K.moved hW.alike hK, hD⟩, hS.F ht⟩) hS.2.2 d_M_mergeLatest_49
      · have hres := zi_n c_30 hres
        refine lv_aload_n hx hb d_M_mergeLatest_33 rfl (lv_at hl 0 rfl) ?_
        refine lv_aload_n hx hb d_M_mergeLatest_34 rfl (lv_at hl 1 rfl) ?_
        refine va_get (D := D) (ci := 0) (v := .int y.2.1) (C := R_T) (T := T_T) (N := 10) hx hb hts in_T hown hK hP (1) rfl rfl 1 (by decide) (hts _ k_62) (fun _ h9 => h9) rfl d_M_mergeLatest_35 ?_
        refine va_put (D := D) (ci := 0) (v := .int y.2.1) (ty := .int) (C := R_T) (T := T_T) (N := 10) hx hb hts in_T ty_T ok_T nm_T hown hK hP hD hS 0 rfl rfl 1 (by decide) (hts _ k_62) (fun _ h9 => h9) rfl (by decide +kernel) rfl rfl (Nat.le_of_ble_eq_true rfl) d_M_mergeLatest_38 (fun H locs hP hD hS => ?_)
        have hP : va_P D vwCl ([(h0, .inr (0, [.long x.1, .int y.2.1, .int x.2.2.1, .int x.2.2.2.1, .int x.2.2.2.2.1, .long x.2.2.2.2.2.1, .int x.2.2.2.2.2.2.1, .long x.2.2.2.2.2.2.2.1, .long x.2.2.2.2.2.2.2.2.1, .int x.2.2.2.2.2.2.2.2.2])), (h1, zcT y)]) H := hP
        have hD : va_D A ([(h0, .inr (0, [.long x.1, .int y.2.1, .int x.2.2.1, .int x.2.2.2.1, .int x.2.2.2.2.1, .long x.2.2.2.2.2.1, .int x.2.2.2.2.2.2.1, .long x.2.2.2.2.2.2.2.1, .long x.2.2.2.2.2.2.2.2.1, .int x.2.2.2.2.2.2.2.2.2])), (h1, zcT y)]) := hD
        refine lv_aload_n hx hb d_M_mergeLatest_41 rfl (lv_at hl 0 rfl) ?_
        refine lv_aload_n hx hb d_M_mergeLatest_42 rfl (lv_at hl 1 rfl) ?_
        refine va_get (D := D) (ci := 0) (v := .int y.2.2.1) (C := R_T) (T := T_T) (N := 10) hx hb hts in_T hown hK hP (1) rfl rfl 2 (by decide) (hts _ k_67) (fun _ h9 => h9) rfl d_M_mergeLatest_43 ?_
        refine va_put (D := D) (ci := 0) (v := .int y.2.2.1) (ty := .int) (C := R_T) (T := T_T) (N := 10) hx hb hts in_T ty_T ok_T nm_T hown hK hP hD hS 0 rfl rfl 2 (by decide) (hts _ k_67) (fun _ h9 => h9) rfl (by decide +kernel) rfl rfl (Nat.le_of_ble_eq_true rfl) d_M_mergeLatest_46 (fun H locs hP hD hS => ?_)
        have hP : va_P D vwCl ([(h0, .inr (0, [.long x.1, .int y.2.1, .int y.2.2.1, .int x.2.2.2.1, .int x.2.2.2.2.1, .long x.2.2.2.2.2.1, .int x.2.2.2.2.2.2.1, .long x.2.2.2.2.2.2.2.1, .long x.2.2.2.2.2.2.2.2.1, .int x.2.2.2.2.2.2.2.2.2])), (h1, zcT y)]) H := hP
        have hD : va_D A ([(h0, .inr (0, [.long x.1, .int y.2.1, .int y.2.2.1, .int x.2.2.2.1, .int x.2.2.2.2.1, .long x.2.2.2.2.2.1, .int x.2.2.2.2.2.2.1, .long x.2.2.2.2.2.2.2.1, .long x.2.2.2.2.2.2.2.2.1, .int x.2.2.2.2.2.2.2.2.2])), (h1, zcT y)]) := hD
        obtain rfl := Option.some.inj hres
        exact W.vret hx hb hr (fun t ht hW => ⟨⟨(), rfl, trivial, by rw [ht]; exact hP, va_K.moved hW.alike hK, hD⟩, hS.F ht⟩) hS.2.2 d_M_mergeLatest_49
abbrev qd_M_mergeOption (D : va_G) (tys : List (ClassId × FieldType)) (h0 : Nat) (h1 : Nat) (h2 : Nat) (x : TreeV) (b : TreeV) (y : TreeV) (v : Int32 × TreeV) (A : Nat → Prop) : Array Value → State → Outcome → State → Prop := va_Qi (fun (r : Int32) (_ : Unit) => r = v.1) (fun _ t => zwd D tys (A) ([(h0, zcT v.2)] ++ [(h1, zcT b), (h2, zcT y)]) t) (A)

def J_M_mergeOption_93 (x : TreeV) (b : TreeV) (j61_s0 : Int64) (j93_s0 : Int32) : Option (Int32 × TreeV) :=
  if zb_z j93_s0 then
    if b.2.2.2.2.2.2.1 = 0 then
      some (1, (x.1, x.2.1, x.2.2.1, x.2.2.2.1, x.2.2.2.2.1, x.2.2.2.2.2.1, j93_s0, j61_s0, x.2.2.2.2.2.2.2.2.1, x.2.2.2.2.2.2.2.2.2))
    else
      some (1, (x.1, x.2.1, x.2.2.1, x.2.2.2.1, x.2.2.2.2.1, x.2.2.2.2.2.1, j93_s0, 0, x.2.2.2.2.2.2.2.2.1, x.2.2.2.2.2.2.2.2.2))
  else
    none
def J_M_mergeOption_93_2 (x : TreeV) (b : TreeV) (j61_s0 : Int64) (j93_s0 : Int32) : Option (Int32 × TreeV) :=
  if zb_z j93_s0 then
    if b.2.2.2.2.2.2.1 = 0 then
      some (1, (x.1, x.2.1, x.2.2.1, x.2.2.2.1, x.2.2.2.2.1, x.2.2.2.2.2.1, j93_s0, j61_s0, x.2.2.2.2.2.2.2.2.1, x.2.2.2.2.2.2.2.2.2))
    else
      some (1, (x.1, x.2.1, x.2.2.1, x.2.2.2.1, x.2.2.2.2.1, x.2.2.2.2.2.1, j93_s0, 0, x.2.2.2.2.2.2.2.2.1, x.2.2.2.2.2.2.2.2.2))
  else
    none
def J_M_mergeOption_61 (x : TreeV) (b : TreeV) (j61_s0 : Int64) : Option (Int32 × TreeV) :=
  if b.2.2.2.2.2.2.1 = 0 then
    if b.2.2.2.2.2.2.1 = 0 then
      J_M_mergeOption_93 x b j61_s0 1
    else
      J_M_mergeOption_93 x b j61_s0 0
  else
    if (lg_cmp b.2.2.2.2.2.2.2.1 j61_s0) = 0 then
      if b.2.2.2.2.2.2.1 = 0 then
        J_M_mergeOption_93_2 x b j61_s0 1
      else
        J_M_mergeOption_93_2 x b j61_s0 0
    else
      some (0, x)
def f_M_mergeOption (x : TreeV) (b : TreeV) (y : TreeV) : Option (Int32 × TreeV) :=
  if x.2.2.2.2.2.2.1 = y.2.2.2.2.2.2.1 then
    if x.2.2.2.2.2.2.1 = 0 then
      some (1, (x.1, x.2.1, x.2.2.1, x.2.2.2.1, x.2.2.2.2.1, x.2.2.2.2.2.1, x.2.2.2.2.2.2.1, 0, x.2.2.2.2.2.2.2.2.1, x.2.2.2.2.2.2.2.2.2))
    else
      Option.bind (f_M_mergedLong b.2.2.2.2.2.2.2.1 x.2.2.2.2.2.2.2.1 y.2.2.2.2.2.2.2.1) (fun v31 =>
        some (1, (x.1, x.2.1, x.2.2.1, x.2.2.2.1, x.2.2.2.2.1, x.2.2.2.2.2.1, x.2.2.2.2.2.2.1, v31, x.2.2.2.2.2.2.2.2.1, x.2.2.2.2.2.2.2.2.2)))
  else
    if x.2.2.2.2.2.2.1 = 0 then
      J_M_mergeOption_61 x b y.2.2.2.2.2.2.2.1
    else
      J_M_mergeOption_61 x b x.2.2.2.2.2.2.2.1
set_option maxHeartbeats 4000000 in
set_option maxRecDepth 100000 in
theorem c_M_mergeOption (l : Launch) (D : va_G) (tys : List (ClassId × FieldType)) (sz : Nat) (h0 : Nat) (h1 : Nat) (h2 : Nat) (x : TreeV) (b : TreeV) (y : TreeV) (v : Int32 × TreeV) (hres : f_M_mergeOption x b y = some v) : Met l y_M_mergeOption w_M_mergeOption ({ frames := 1, cells := 0, slots := 0, locals := 25 } : Room) (va_Pc ([.ref h0, .ref h1, .ref h2]) (zrw D tys sz ([(h0, zcT x)] ++ [(h1, zcT b), (h2, zcT y)]))) (qd_M_mergeOption D tys h0 h1 h2 x b y v (va_A ([(h0, zcT x)] ++ [(h1, zcT b), (h2, zcT y)]) sz)) 0 0 (va_A ([(h0, zcT x)] ++ [(h1, zcT b), (h2, zcT y)]) sz) := by
  refine Met.ofW (cc := b_M_mergeOption) (maxL := 5) (ret := (some .boolean)) (by decide) rfl ?_
  intro p e s m args below meth c s₁ B hml hv
  obtain ⟨rfl, hsz, hP, hK, hD0, hN⟩ := hv
  have hx := B.exec
  have hb := B.bytes
  have hr := B.returns
  have hts : ∀ w ∈ zt, w.before ([.ref h0, .ref h1, .ref h2].toArray) s = true := fun w h => atoms_spec (ws := w_M_mergeOption) B.pre w (List.mem_cons_of_mem _ h)
  have hown : s.vm.findClass R_M = some m.cls := findClass_of_methodNamed B.named
  have hlocks := B.notSynchronized
  subst hsz
  have hD := hD0.self (sz := s.heap.size)
  generalize hAe : va_A ([(h0, zcT x)] ++ [(h1, zcT b), (h2, zcT y)]) s.heap.size = A at hD ⊢
  have hA : ∀ q : Nat, s.heap.size ≤ q → A q := fun q h => by rw [← hAe]; exact Or.inr h
  have hS : va_S A s.heap s.heap [] := va_S.rf
  have hP : va_P D vwCl ([(h0, zcT x), (h1, zcT b), (h2, zcT y)]) s.heap := hP
  have hD : va_D A ([(h0, zcT x), (h1, zcT b), (h2, zcT y)]) := hD
  have hl := lv_entry ([.ref h0, .ref h1, .ref h2]) (n := 5) (Nat.le_of_ble_eq_true rfl)
  rw [lg_entry_eq]
  generalize (lg_sl ([.ref h0, .ref h1, .ref h2]) ++ List.replicate (5 - (lg_sl ([.ref h0, .ref h1, .ref h2])).length) Slot.unset).toArray = ls at hl ⊢
  have hl : lv_has ls 5 [(0, .ref h0), (1, .ref h1), (2, .ref h2)] := hl
  unfold f_M_mergeOption at hres
  refine lv_aload_n hx hb d_M_mergeOption_0 rfl (lv_at hl 0 rfl) ?_
  refine va_get (D := D) (ci := 0) (v := .int x.2.2.2.2.2.2.1) (C := R_T) (T := T_T) (N := 10) hx hb hts in_T hown hK hP (0) rfl rfl 6 (by decide) (hts _ k_85) (fun _ h9 => h9) rfl d_M_mergeOption_1 ?_
  refine lv_aload_n hx hb d_M_mergeOption_4 rfl (lv_at hl 2 rfl) ?_
  refine va_get (D := D) (ci := 0) (v := .int y.2.2.2.2.2.2.1) (C := R_T) (T := T_T) (N := 10) hx hb hts in_T hown hK hP (2) rfl rfl 6 (by decide) (hts _ k_85) (fun _ h9 => h9) rfl d_M_mergeOption_5 ?_
  refine lv_icmp_ne (tgt := 43) hx hb d_M_mergeOption_8 (by decide) (fun c_8 => ?_) (fun c_8 => ?_)
  · have hres := zi_n c_8 hres
    refine lv_aload_n hx hb d_M_mergeOption_43 rfl (lv_at hl 0 rfl) ?_
    refine va_get (D := D) (ci := 0) (v := .int x.2.2.2.2.2.2.1) (C := R_T) (T := T_T) (N := 10) hx hb hts in_T hown hK hP (0) rfl rfl 6 (by decide) (hts _ k_85) (fun _ h9 => h9) rfl d_M_mergeOption_44 ?_
    have hj61 : ∀ (j61_s0 : Int64) (H : Heap) (locs : List Loc), va_P D vwCl ([(h0, zcT x), (h1, zcT b), (h2, zcT y)]) H → va_D A ([(h0, zcT x), (h1, zcT b), (h2, zcT y)]) → va_S A s.heap H locs → ∀ (ls : Array Slot), lv_has ls 5 [(0, .ref h0), (1, .ref h1), (2, .ref h2)] → J_M_mergeOption_61 x b j61_s0 = some v → W p l e (headSpec w_M_mergeOption ({ frames := 1, cells := 0, slots := 0, locals := 25 } : Room)).room s m ([.ref h0, .ref h1, .ref h2].toArray) below meth c H locs 0 0 (MQ below (qd_M_mergeOption D tys h0 h1 h2 x b y v A) ([.ref h0, .ref h1, .ref h2].toArray) s 0 0 A) (F0 m 61 ls [.long j61_s0]) := by
      intro j61_s0 H locs hP hD hS ls hl hres
      unfold J_M_mergeOption_61 at hres
      refine lv_lstore_n (lv' := [(3, .long j61_s0), (0, .ref h0), (1, .ref h1), (2, .ref h2)]) hx hb d_M_mergeOption_61 rfl hl (by decide) rfl (fun ls hl => ?_)
      refine lv_aload_n hx hb d_M_mergeOption_62 rfl (lv_at hl 2 rfl) ?_
      refine va_get (D := D) (ci := 0) (v := .int b.2.2.2.2.2.2.1) (C := R_T) (T := T_T) (N := 10) hx hb hts in_T hown hK hP (1) rfl rfl 6 (by decide) (hts _ k_85) (fun _ h9 => h9) rfl d_M_mergeOption_63 ?_
      refine lv_if_eq (tgt := 80) hx hb d_M_mergeOption_66 (by decide) (fun c_66 => ?_) (fun c_66 => ?_)
      · have hres := zi_p c_66 hres
        refine lv_aload_n hx hb d_M_mergeOption_80 rfl (lv_at hl 1 rfl) ?_
        refine lv_aload_n hx hb d_M_mergeOption_81 rfl (lv_at hl 2 rfl) ?_
        refine va_get (D := D) (ci := 0) (v := .int b.2.2.2.2.2.2.1) (C := R_T) (T := T_T) (N := 10) hx hb hts in_T hown hK hP (1) rfl rfl 6 (by decide) (hts _ k_85) (fun _ h9 => h9) rfl d_M_mergeOption_82 ?_
        have hj93 : ∀ (j93_s0 : Int32) (H : Heap) (locs : List Loc), va_P D vwCl ([(h0, zcT x), (h1, zcT b), (h2, zcT y)]) H → va_D A ([(h0, zcT x), (h1, zcT b), (h2, zcT y)]) → va_S A s.heap H locs → ∀ (ls : Array Slot), lv_has ls 5 [(3, .long j61_s0), (0, .ref h0), (1, .ref h1), (2, .ref h2)] → J_M_mergeOption_93 x b j61_s0 j93_s0 = some v → W p l e (headSpec w_M_mergeOption ({ frames := 1, cells := 0, slots := 0, locals := 25 } : Room)).room s m ([.ref h0, .ref h1, .ref h2].toArray) below meth c H locs 0 0 (MQ below (qd_M_mergeOption D tys h0 h1 h2 x b y v A) ([.ref h0, .ref h1, .ref h2].toArray) s 0 0 A) (F0 m 93 ls [.int j93_s0, .ref h0]) := by
          intro j93_s0 H locs hP hD hS ls hl hres
          unfold J_M_mergeOption_93 at hres
          by_cases ck_93 : zb_z j93_s0
          · have hres := zi_p ck_93 hres
            refine va_put (D := D) (ci := 0) (v := .int j93_s0) (ty := .boolean) (C := R_T) (T := T_T) (N := 10) hx hb hts in_T ty_T ok_T nm_T hown hK hP hD hS 0 rfl rfl 6 (by decide) (hts _ k_85) (fun _ h9 => h9) rfl (by decide +kernel) (zb_n ck_93) (zb_f ck_93) (Nat.le_of_ble_eq_true rfl) d_M_mergeOption_93 (fun H locs hP hD hS => ?_)
            have hP : va_P D vwCl ([(h0, .inr (0, [.long x.1, .int x.2.1, .int x.2.2.1, .int x.2.2.2.1, .int x.2.2.2.2.1, .long x.2.2.2.2.2.1, .int j93_s0, .long x.2.2.2.2.2.2.2.1, .long x.2.2.2.2.2.2.2.2.1, .int x.2.2.2.2.2.2.2.2.2])), (h1, zcT b), (h2, zcT y)]) H := hP
            have hD : va_D A ([(h0, .inr (0, [.long x.1, .int x.2.1, .int x.2.2.1, .int x.2.2.2.1, .int x.2.2.2.2.1, .long x.2.2.2.2.2.1, .int j93_s0, .long x.2.2.2.2.2.2.2.1, .long x.2.2.2.2.2.2.2.2.1, .int x.2.2.2.2.2.2.2.2.2])), (h1, zcT b), (h2, zcT y)]) := hD
            refine lv_aload_n hx hb d_M_mergeOption_96 rfl (lv_at hl 1 rfl) ?_
            refine lv_aload_n hx hb d_M_mergeOption_97 rfl (lv_at hl 2 rfl) ?_
            refine va_get (D := D) (ci := 0) (v := .int b.2.2.2.2.2.2.1) (C := R_T) (T := T_T) (N := 10) hx hb hts in_T hown hK hP (1) rfl rfl 6 (by decide) (hts _ k_85) (fun _ h9 => h9) rfl d_M_mergeOption_98 ?_
            refine lv_if_eq (tgt := 108) hx hb d_M_mergeOption_101 (by decide) (fun c_101 => ?_) (fun c_101 => ?_)
            · have hres := zi_p c_101 hres
              refine lv_lload_n hx hb d_M_mergeOption_108 rfl (lv_at hl 0 rfl) ?_
              refine va_put (D := D) (ci := 0) (v := .long j61_s0) (ty := .long) (C := R_T) (T := T_T) (N := 10) hx hb hts in_T ty_T ok_T nm_T hown hK hP hD hS 0 rfl rfl 7 (by decide) (hts _ k_90) (fun _ h9 => h9) rfl (by decide +kernel) rfl rfl (Nat.le_of_ble_eq_true rfl) d_M_mergeOption_109 (fun H locs hP hD hS => ?_)
              have hP : va_P D vwCl ([(h0, .inr (0, [.long x.1, .int x.2.1, .int x.2.2.1, .int x.2.2.2.1, .int x.2.2.2.2.1, .long x.2.2.2.2.2.1, .int j93_s0, .long j61_s0, .long x.2.2.2.2.2.2.2.2.1, .int x.2.2.2.2.2.2.2.2.2])), (h1, zcT b), (h2, zcT y)]) H := hP
              have hD : va_D A ([(h0, .inr (0, [.long x.1, .int x.2.1, .int x.2.2.1, .int x.2.2.2.1, .int x.2.2.2.2.1, .long x.2.2.2.2.2.1, .int j93_s0, .long j61_s0, .long x.2.2.2.2.2.2.2.2.1, .int x.2.2.2.2.2.2.2.2.2])), (h1, zcT b), (h2, zcT y)]) := hD
              refine lv_iconst (v := 1) hx hb d_M_mergeOption_112 (by decide) ?_
              obtain rfl := Option.some.inj hres
              exact W.zret (v := 1) (ty := .boolean) hx hb hr rfl (fun t ht hW => ⟨⟨_, (), rfl, rfl, by rw [ht]; exact hP, va_K.moved hW.alike hK, hD⟩, hS.F ht⟩) hS.2.2 d_M_mergeOption_113
            · have hres := zi_n c_101 hres
              refine lv_lconst (v := 0) hx hb d_M_mergeOption_104 (by decide) ?_
              refine lv_goto (tgt := 109) hx hb d_M_mergeOption_105 (by decide) ?_
              refine va_put (D := D) (ci := 0) (v := .long 0) (ty := .long) (C := R_T) (T := T_T) (N := 10) hx hb hts in_T ty_T ok_T nm_T hown hK hP hD hS 0 rfl rfl 7 (by decide) (hts _ k_90) (fun _ h9 => h9) rfl (by decide +kernel) rfl rfl (Nat.le_of_ble_eq_true rfl) d_M_mergeOption_109 (fun H locs hP hD hS => ?_)
              have hP : va_P D vwCl ([(h0, .inr (0, [.long x.1, .int x.2.1, .int x.2.2.1, .int x.2.2.2.1, .int x.2.2.2.2.1, .long x.2.2.2.2.2.1, .int j93_s0, .long 0, .long x.2.2.2.2.2.2.2.2.1, .int x.2.2.2.2.2.2.2.2.2])), (h1, zcT b), (h2, zcT y)]) H := hP
              have hD : va_D A ([(h0, .inr (0, [.long x.1, .int x.2.1, .int x.2.2.1, .int x.2.2.2.1, .int x.2.2.2.2.1, .long x.2.2.2.2.2.1, .int j93_s0, .long 0, .long x.2.2.2.2.2.2.2.2.1, .int x.2.2.2.2.2.2.2.2.2])), (h1, zcT b), (h2, zcT y)]) := hD
              refine lv_iconst (v := 1) hx hb d_M_mergeOption_112 (by decide) ?_
              obtain rfl := Option.some.inj hres
              exact W.zret (v := 1) (ty := .boolean) hx hb hr rfl (fun t ht hW => ⟨⟨_, (), rfl, rfl, by rw [ht]; exact hP, va_K.moved hW.alike hK, hD⟩, hS.F ht⟩) hS.2.2 d_M_mergeOption_113
          · exact absurd (zi_n ck_93 hres) (by simp)
        refine lv_if_ne (tgt := 92) hx hb d_M_mergeOption_85 (by decide) (fun c_85 => ?_) (fun c_85 => ?_)
        · have hres := zi_n c_85 hres
          refine lv_iconst (v := 0) hx hb d_M_mergeOption_92 (by decide) ?_
          exact hj93 0 _ _ hP hD hS ls (lv_sub hl [0, 1, 2, 3] rfl) hres
        · have hres := zi_p c_85 hres
          refine lv_iconst (v := 1) hx hb d_M_mergeOption_88 (by decide) ?_
          refine lv_goto (tgt := 93) hx hb d_M_mergeOption_89 (by decide) ?_
          exact hj93 1 _ _ hP hD hS ls (lv_sub hl [0, 1, 2, 3] rfl) hres
      · have hres := zi_n c_66 hres
        refine lv_aload_n hx hb d_M_mergeOption_69 rfl (lv_at hl 2 rfl) ?_
        refine va_get (D := D) (ci := 0) (v := .long b.2.2.2.2.2.2.2.1) (C := R_T) (T := T_T) (N := 10) hx hb hts in_T hown hK hP (1) rfl rfl 7 (by decide) (hts _ k_90) (fun _ h9 => h9) rfl d_M_mergeOption_70 ?_
        refine lv_lload_n hx hb d_M_mergeOption_73 rfl (lv_at hl 0 rfl) ?_
        refine W.lcmp hx hb d_M_mergeOption_74 ?_
        refine lv_if_eq (tgt := 80) hx hb d_M_mergeOption_75 (by decide) (fun c_75 => ?_) (fun c_75 => ?_)
        · have hres := zi_p c_75 hres
          refine lv_aload_n hx hb d_M_mergeOption_80 rfl (lv_at hl 1 rfl) ?_
          refine lv_aload_n hx hb d_M_mergeOption_81 rfl (lv_at hl 2 rfl) ?_
          refine va_get (D := D) (ci := 0) (v := .int b.2.2.2.2.2.2.1) (C := R_T) (T := T_T) (N := 10) hx hb hts in_T hown hK hP (1) rfl rfl 6 (by decide) (hts _ k_85) (fun _ h9 => h9) rfl d_M_mergeOption_82 ?_
          have hj93 : ∀ (j93_s0 : Int32) (H : Heap) (locs : List Loc), va_P D vwCl ([(h0, zcT x), (h1, zcT b), (h2, zcT y)]) H → va_D A ([(h0, zcT x), (h1, zcT b), (h2, zcT y)]) → va_S A s.heap H locs → ∀ (ls : Array Slot), lv_has ls 5 [(3, .long j61_s0), (0, .ref h0), (1, .ref h1), (2, .ref h2)] → J_M_mergeOption_93_2 x b j61_s0 j93_s0 = some v → W p l e (headSpec w_M_mergeOption ({ frames := 1, cells := 0, slots := 0, locals := 25 } : Room)).room s m ([.ref h0, .ref h1, .ref h2].toArray) below meth c H locs 0 0 (MQ below (qd_M_mergeOption D tys h0 h1 h2 x b y v A) ([.ref h0, .ref h1, .ref h2].toArray) s 0 0 A) (F0 m 93 ls [.int j93_s0, .ref h0]) := by
            intro j93_s0 H locs hP hD hS ls hl hres
            unfold J_M_mergeOption_93_2 at hres
            by_cases ck_93 : zb_z j93_s0
            · have hres := zi_p ck_93 hres
              refine va_put (D := D) (ci := 0) (v := .int j93_s0) (ty := .boolean) (C := R_T) (T := T_T) (N := 10) hx hb hts in_T ty_T ok_T nm_T hown hK hP hD hS 0 rfl rfl 6 (by decide) (hts _ k_85) (fun _ h9 => h9) rfl (by decide +kernel) (zb_n ck_93) (zb_f ck_93) (Nat.le_of_ble_eq_true rfl) d_M_mergeOption_93 (fun H locs hP hD hS => ?_)
              have hP : va_P D vwCl ([(h0, .inr (0, [.long x.1, .int x.2.1, .int x.2.2.1, .int x.2.2.2.1, .int x.2.2.2.2.1, .long x.2.2.2.2.2.1, .int j93_s0, .long x.2.2.2.2.2.2.2.1, .long x.2.2.2.2.2.2.2.2.1, .int x.2.2.2.2.2.2.2.2.2])), (h1, zcT b), (h2, zcT y)]) H := hP
              have hD : va_D A ([(h0, .inr (0, [.long x.1, .int x.2.1, .int x.2.2.1, .int x.2.2.2.1, .int x.2.2.2.2.1, .long x.2.2.2.2.2.1, .int j93_s0, .long x.2.2.2.2.2.2.2.1, .long x.2.2.2.2.2.2.2.2.1, .int x.2.2.2.2.2.2.2.2.2])), (h1, zcT b), (h2, zcT y)]) := hD
              refine lv_aload_n hx hb d_M_mergeOption_96 rfl (lv_at hl 1 rfl) ?_
              refine lv_aload_n hx hb d_M_mergeOption_97 rfl (lv_at hl 2 rfl) ?_
              refine va_get (D := D) (ci := 0) (v := .int b.2.2.2.2.2.2.1) (C := R_T) (T := T_T) (N := 10) hx hb hts in_T hown hK hP (1) rfl rfl 6 (by decide) (hts _ k_85) (fun _ h9 => h9) rfl d_M_mergeOption_98 ?_
              refine lv_if_eq (tgt := 108) hx hb d_M_mergeOption_101 (by decide) (fun c_101 => ?_) (fun c_101 => ?_)
              · have hres := zi_p c_101 hres
                refine lv_lload_n hx hb d_M_mergeOption_108 rfl (lv_at hl 0 rfl) ?_
                refine va_put (D := D) (ci := 0) (v := .long j61_s0) (ty := .long) (C := R_T) (T := T_T) (N := 10) hx hb hts in_T ty_T ok_T nm_T hown hK hP hD hS 0 rfl rfl 7 (by decide) (hts _ k_90) (fun _ h9 => h9) rfl (by decide +kernel) rfl rfl (Nat.le_of_ble_eq_true rfl) d_M_mergeOption_109 (fun H locs hP hD hS => ?_)
                have hP : va_P D vwCl ([(h0, .inr (0, [.long x.1, .int x.2.1, .int x.2.2.1, .int x.2.2.2.1, .int x.2.2.2.2.1, .long x.2.2.2.2.2.1, .int j93_s0, .long j61_s0, .long x.2.2.2.2.2.2.2.2.1, .int x.2.2.2.2.2.2.2.2.2])), (h1, zcT b), (h2, zcT y)]) H := hP
                have hD : va_D A ([(h0, .inr (0, [.long x.1, .int x.2.1, .int x.2.2.1, .int x.2.2.2.1, .int x.2.2.2.2.1, .long x.2.2.2.2.2.1, .int j93_s0, .long j61_s0, .long x.2.2.2.2.2.2.2.2.1, .int x.2.2.2.2.2.2.2.2.2])), (h1, zcT b), (h2, zcT y)]) := hD
                refine lv_iconst (v := 1) hx hb d_M_mergeOption_112 (by decide) ?_
                obtain rfl := Option.some.inj hres
                exact W.zret (v := 1) (ty := .boolean) hx hb hr rfl (fun t ht hW => ⟨⟨_, (), rfl, rfl, by rw [ht]; exact hP, va_K.moved hW.alike hK, hD⟩, hS.F ht⟩) hS.2.2 d_M_mergeOption_113
              · have hres := zi_n c_101 hres
                refine lv_lconst (v := 0) hx hb d_M_mergeOption_104 (by decide) ?_
                refine lv_goto (tgt := 109) hx hb d_M_mergeOption_105 (by decide) ?_
                refine va_put (D := D) (ci := 0) (v := .long 0) (ty := .long) (C := R_T) (T := T_T) (N := 10) hx hb hts in_T ty_T ok_T nm_T hown hK hP hD hS 0 rfl rfl 7 (by decide) (hts _ k_90) (fun _ h9 => h9) rfl (by decide +kernel) rfl rfl (Nat.le_of_ble_eq_true rfl) d_M_mergeOption_109 (fun H locs hP hD hS => ?_)
                have hP : va_P D vwCl ([(h0, .inr (0, [.long x.1, .int x.2.1, .int x.2.2.1, .int x.2.2.2.1, .int x.2.2.2.2.1, .long x.2.2.2.2.2.1, .int j93_s0, .long 0, .long x.2.2.2.2.2.2.2.2.1, .int x.2.2.2.2.2.2.2.2.2])), (h1, zcT b), (h2, zcT y)]) H := hP
                have hD : va_D A ([(h0, .inr (0, [.long x.1, .int x.2.1, .int x.2.2.1, .int x.2.2.2.1, .int x.2.2.2.2.1, .long x.2.2.2.2.2.1, .int j93_s0, .long 0, .long x.2.2.2.2.2.2.2.2.1, .int x.2.2.2.2.2.2.2.2.2])), (h1, zcT b), (h2, zcT y)]) := hD
                refine lv_iconst (v := 1) hx hb d_M_mergeOption_112 (by decide) ?_
                obtain rfl := Option.some.inj hres
                exact W.zret (v := 1) (ty := .boolean) hx hb hr rfl (fun t ht hW => ⟨⟨_, (), rfl, rfl, by rw [ht]; exact hP, va_K.moved hW.alike hK, hD⟩, hS.F ht⟩) hS.2.2 d_M_mergeOption_113
            · exact absurd (zi_n ck_93 hres) (by simp)
          refine lv_if_ne (tgt := 92) hx hb d_M_mergeOption_85 (by decide) (fun c_85 => ?_) (fun c_85 => ?_)
          · have hres := zi_n c_85 hres
            refine lv_iconst (v := 0) hx hb d_M_mergeOption_92 (by decide) ?_
            exact hj93 0 _ _ hP hD hS ls (lv_sub hl [0, 1, 2, 3] rfl) hres
          · have hres := zi_p c_85 hres
            refine lv_iconst (v := 1) hx hb d_M_mergeOption_88 (by decide) ?_
            refine lv_goto (tgt := 93) hx hb d_M_mergeOption_89 (by decide) ?_
            exact hj93 1 _ _ hP hD hS ls (lv_sub hl [0, 1, 2, 3] rfl) hres
        · have hres := zi_n c_75 hres
          refine lv_iconst (v := 0) hx hb d_M_mergeOption_78 (by decide) ?_
          obtain rfl := Option.some.inj hres
          exact W.zret (v := 0) (ty := .boolean) hx hb hr rfl (fun t ht hW => ⟨⟨_, (), rfl, rfl, by rw [ht]; exact hP, va_K.moved hW.alike hK, hD⟩, hS.F ht⟩) hS.2.2 d_M_mergeOption_79
    refine lv_if_eq (tgt := 57) hx hb d_M_mergeOption_47 (by decide) (fun c_47 => ?_) (fun c_47 => ?_)
    · have hres := zi_p c_47 hres
      refine lv_aload_n hx hb d_M_mergeOption_57 rfl (lv_at hl 2 rfl) ?_
      refine va_get (D := D) (ci := 0) (v := .long y.2.2.2.2.2.2.2.1) (C := R_T) (T := T_T) (N := 10) hx hb hts in_T hown hK hP (2) rfl rfl 7 (by decide) (hts _ k_90) (fun _ h9 => h9) rfl d_M_mergeOption_58 ?_
      exact hj61 y.2.2.2.2.2.2.2.1 _ _ hP hD hS ls (lv_sub hl [0, 1, 2] rfl) hres
    · have hres := zi_n c_47 hres
      refine lv_aload_n hx hb d_M_mergeOption_50 rfl (lv_at hl 0 rfl) ?_
      refine va_get (D := D) (ci := 0) (v := .long x.2.2.2.2.2.2.2.1) (C := R_T) (T := T_T) (N := 10) hx hb hts in_T hown hK hP (0) rfl rfl 7 (by decide) (hts _ k_90) (fun _ h9 => h9) rfl d_M_mergeOption_51 ?_
      refine lv_goto (tgt := 61) hx hb d_M_mergeOption_54 (by decide) ?_
      exact hj61 x.2.2.2.2.2.2.2.1 _ _ hP hD hS ls (lv_sub hl [0, 1, 2] rfl) hres
  · have hres := zi_p c_8 hres
    refine lv_aload_n hx hb d_M_mergeOption_11 rfl (lv_at hl 0 rfl) ?_
    refine lv_aload_n hx hb d_M_mergeOption_12 rfl (lv_at hl 0 rfl) ?_
    refine va_get (D := D) (ci := 0) (v := .int x.2.2.2.2.2.2.1) (C := R_T) (T := T_T) (N := 10) hx hb hts in_T hown hK hP (0) rfl rfl 6 (by decide) (hts _ k_85) (fun _ h9 => h9) rfl d_M_mergeOption_13 ?_
    refine lv_if_eq (tgt := 37) hx hb d_M_mergeOption_16 (by decide) (fun c_16 => ?_) (fun c_16 => ?_)
    · have hres := zi_p c_16 hres
      refine lv_lconst (v := 0) hx hb d_M_mergeOption_37 (by decide) ?_
      refine va_put (D := D) (ci := 0) (v := .long 0) (ty := .long) (C := R_T) (T := T_T) (N := 10) hx hb hts in_T ty_T ok_T nm_T hown hK hP hD hS 0 rfl rfl 7 (by decide) (hts _ k_90) (fun _ h9 => h9) rfl (by decide +kernel) rfl rfl (Nat.le_of_ble_eq_true rfl) d_M_mergeOption_38 (fun H locs hP hD hS => ?_)
      have hP : va_P D vwCl ([(h0, .inr (0, [.long x.1, .int x.2.1, .int x.2.2.1, .int x.2.2.2.1, .int x.2.2.2.2.1, .long x.2.2.2.2.2.1, .int x.2.2.2.2.2.2.1, .long 0, .long x.2.2.2.2.2.2.2.2.1, .int x.2.2.2.2.2.2.2.2.2])), (h1, zcT b), (h2, zcT y)]) H := hP
      have hD : va_D A ([(h0, .inr (0, [.long x.1, .int x.2.1, .int x.2.2.1, .int x.2.2.2.1, .int x.2.2.2.2.1, .long x.2.2.2.2.2.1, .int x.2.2.2.2.2.2.1, .long 0, .long x.2.2.2.2.2.2.2.2.1, .int x.2.2.2.2.2.2.2.2.2])), (h1, zcT b), (h2, zcT y)]) := hD
      refine lv_iconst (v := 1) hx hb d_M_mergeOption_41 (by decide) ?_
      obtain rfl := Option.some.inj hres
      exact W.zret (v := 1) (ty := .boolean) hx hb hr rfl (fun t ht hW => ⟨⟨_, (), rfl, rfl, by rw [ht]; exact hP, va_K.moved hW.alike hK, hD⟩, hS.F ht⟩) hS.2.2 d_M_mergeOption_42
    · have hres := zi_n c_16 hres
      refine lv_aload_n hx hb d_M_mergeOption_19 rfl (lv_at hl 1 rfl) ?_
      refine va_get (D := D) (ci := 0) (v := .long b.2.2.2.2.2.2.2.1) (C := R_T) (T := T_T) (N := 10) hx hb hts in_T hown hK hP (1) rfl rfl 7 (by decide) (hts _ k_90) (fun _ h9 => h9) rfl d_M_mergeOption_20 ?_
      refine lv_aload_n hx hb d_M_mergeOption_23 rfl (lv_at hl 0 rfl) ?_
      refine va_get (D := D) (ci := 0) (v := .long x.2.2.2.2.2.2.2.1) (C := R_T) (T := T_T) (N := 10) hx hb hts in_T hown hK hP (0) rfl rfl 7 (by decide) (hts _ k_90) (fun _ h9 => h9) rfl d_M_mergeOption_24 ?_
      refine lv_aload_n hx hb d_M_mergeOption_27 rfl (lv_at hl 2 rfl) ?_
      refine va_get (D := D) (ci := 0) (v := .long y.2.2.2.2.2.2.2.1) (C := R_T) (T := T_T) (N := 10) hx hb hts in_T hown hK hP (2) rfl rfl 7 (by decide) (hts _ k_90) (fun _ h9 => h9) rfl d_M_mergeOption_28 ?_
      obtain ⟨v31, hc31, hres⟩ := zo_b hres
      refine vp_callSl (va_Run.run (va_runS (As := [.long b.2.2.2.2.2.2.2.1, .long x.2.2.2.2.2.2.2.1, .long y.2.2.2.2.2.2.2.1]) (rest := [.ref h0]) ⟨hx, hb, hml, hown, hts⟩ (c_M_mergedLong l D tys b.2.2.2.2.2.2.2.1 x.2.2.2.2.2.2.2.1 y.2.2.2.2.2.2.2.1 v31 hc31) (va_cwS 3 hts (zg_S k_326 k_327 k_31 g_M_mergedLong) rfl rfl rfl hd_M_mergedLong ⟨Nat.le_of_ble_eq_true rfl, Nat.le_of_ble_eq_true rfl⟩) ⟨zro_b _, zro_p va_Pnil hK hN _⟩ rfl rfl hl.1 rfl (lv_room (Nat.le_of_ble_eq_true rfl)) d_M_mergeOption_31 ⟨Nat.zero_le _, Nat.zero_le _⟩)) (fun r_31 er_31 => ?_)
      have er_31 := er_31.symm
      subst er_31
      refine lv_goto (tgt := 38) hx hb d_M_mergeOption_34 (by decide) ?_
      refine va_put (D := D) (ci := 0) (v := .long v31) (ty := .long) (C := R_T) (T := T_T) (N := 10) hx hb hts in_T ty_T ok_T nm_T hown hK hP hD hS 0 rfl rfl 7 (by decide) (hts _ k_90) (fun _ h9 => h9) rfl (by decide +kernel) rfl rfl (Nat.le_of_ble_eq_true rfl) d_M_mergeOption_38 (fun H locs hP hD hS => ?_)
      have hP : va_P D vwCl ([(h0, .inr (0, [.long x.1, .int x.2.1, .int x.2.2.1, .int x.2.2.2.1, .int x.2.2.2.2.1, .long x.2.2.2.2.2.1, .int x.2.2.2.2.2.2.1, .long v31, .long x.2.2.2.2.2.2.2.2.1, .int x.2.2.2.2.2.2.2.2.2])), (h1, zcT b), (h2, zcT y)]) H := hP
      have hD : va_D A ([(h0, .inr (0, [.long x.1, .int x.2.1, .int x.2.2.1, .int x.2.2.2.1, .int x.2.2.2.2.1, .long x.2.2.2.2.2.1, .int x.2.2.2.2.2.2.1, .long v31, .long x.2.2.2.2.2.2.2.2.1, .int x.2.2.2.2.2.2.2.2.2])), (h1, zcT b), (h2, zcT y)]) := hD
      refine lv_iconst (v := 1) hx hb d_M_mergeOption_41 (by decide) ?_
      obtain rfl := Option.some.inj hres
      exact W.zret (v := 1) (ty := .boolean) hx hb hr rfl (fun t ht hW => ⟨⟨_, (), rfl, rfl, by rw [ht]; exact hP, va_K.moved hW.alike hK, hD⟩, hS.F ht⟩) hS.2.2 d_M_mergeOption_42

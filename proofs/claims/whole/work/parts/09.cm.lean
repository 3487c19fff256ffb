abbrev ComV : Type := Int32 × Int32 × (Option Nat) × (Option Nat) × Nat × Int64 × Int64
abbrev zcC (x : ComV) : va_E := .inr (1, [.int x.1, .int x.2.1, va_rf x.2.2.1, va_rf x.2.2.2.1, .ref x.2.2.2.2.1, .long x.2.2.2.2.2.1, .long x.2.2.2.2.2.2])
def f_C_pastOf_n : Option (Int64) :=
  some 0
set_option maxHeartbeats 4000000 in
set_option maxRecDepth 100000 in
theorem c_C_pastOf_n (l : Launch) (D : va_G) (tys : List (ClassId × FieldType)) (v : Int64) (hres : f_C_pastOf_n = some v) : Met l y_C_pastOf w_C_pastOf ({ frames := 0, cells := 0, slots := 0, locals := 0 } : Room) (va_Pc ([.null]) (zro D tys ([]))) (vp_Sl (fun r : Int64 => r = v)) 0 0 (fun _ => False) := by
  refine Met.ofW (cc := b_C_pastOf) (maxL := 1) (ret := (some .long)) (by decide) rfl ?_
  intro p e s m args below meth c s₁ B hml hv
  obtain ⟨rfl, hP, hK, hN⟩ := hv
  have hx := B.exec
  have hb := B.bytes
  have hr := B.returns
  have hts : ∀ w ∈ zt, w.before ([.null].toArray) s = true := fun w h => atoms_spec (ws := w_C_pastOf) B.pre w (List.mem_cons_of_mem _ h)
  have hown : s.vm.findClass R_C = some m.cls := findClass_of_methodNamed B.named
  have hlocks := B.notSynchronized
  have hl := lv_entry ([.null]) (n := 1) (Nat.le_of_ble_eq_true rfl)
  rw [lg_entry_eq]
  generalize (lg_sl ([.null]) ++ List.replicate (1 - (lg_sl ([.null])).length) Slot.unset).toArray = ls at hl ⊢
  have hl : lv_has ls 1 [(0, .null)] := hl
  unfold f_C_pastOf_n at hres
  refine lv_aload_nN hx hb d_C_pastOf_0 rfl (lv_at hl 0 rfl) ?_
  refine lv_ifnonnullN hx hb d_C_pastOf_1 ?_
  refine lv_lconst (v := 0) hx hb d_C_pastOf_4 (by decide) ?_
  refine lv_goto (tgt := 12) hx hb d_C_pastOf_5 (by decide) ?_
  obtain rfl := Option.some.inj hres
  exact W.lret (v := 0) hx hb hr (fun t ht hW => ⟨_, rfl, rfl, ht⟩) (fun _ hq => by cases hq) d_C_pastOf_12
def f_C_pastOf_r (x : ComV) : Option (Int64) :=
  some x.2.2.2.2.2.1
set_option maxHeartbeats 4000000 in
set_option maxRecDepth 100000 in
theorem c_C_pastOf_r (l : Launch) (D : va_G) (tys : List (ClassId × FieldType)) (h0 : Nat) (x : ComV) (v : Int64) (hres : f_C_pastOf_r x = some v) : Met l y_C_pastOf w_C_pastOf ({ frames := 0, cells := 0, slots := 0, locals := 0 } : Room) (va_Pc ([.ref h0]) (zro D tys ([(h0, zcC x)]))) (vp_Sl (fun r : Int64 => r = v)) 0 0 (fun _ => False) := by
  refine Met.ofW (cc := b_C_pastOf) (maxL := 1) (ret := (some .long)) (by decide) rfl ?_
  intro p e s m args below meth c s₁ B hml hv
  obtain ⟨rfl, hP, hK, hN⟩ := hv
  have hx := B.exec
  have hb := B.bytes
  have hr := B.returns
  have hts : ∀ w ∈ zt, w.before ([.ref h0].toArray) s = true := fun w h => atoms_spec (ws := w_C_pastOf) B.pre w (List.mem_cons_of_mem _ h)
  have hown : s.vm.findClass R_C = some m.cls := findClass_of_methodNamed B.named
  have hlocks := B.notSynchronized
  have hl := lv_entry ([.ref h0]) (n := 1) (Nat.le_of_ble_eq_true rfl)
  rw [lg_entry_eq]
  generalize (lg_sl ([.ref h0]) ++ List.replicate (1 - (lg_sl ([.ref h0])).length) Slot.unset).toArray = ls at hl ⊢
  have hl : lv_has ls 1 [(0, .ref h0)] := hl
  unfold f_C_pastOf_r at hres
  refine lv_aload_n hx hb d_C_pastOf_0 rfl (lv_at hl 0 rfl) ?_
  refine lv_ifnonnull (tgt := 8) hx hb d_C_pastOf_1 (by decide) ?_
  refine lv_aload_n hx hb d_C_pastOf_8 rfl (lv_at hl 0 rfl) ?_
  refine va_get (D := D) (ci := 1) (v := .long x.2.2.2.2.2.1) (C := R_C) (T := T_C) (N := 7) hx hb hts in_C hown hK hP (0) rfl rfl 5 (by decide) (hts _ k_260) (fun _ h9 => h9) rfl d_C_pastOf_9 ?_
  obtain rfl := Option.some.inj hres
  exact W.lret (v := x.2.2.2.2.2.1) hx hb hr (fun t ht hW => ⟨_, rfl, rfl, ht⟩) (fun _ hq => by cases hq) d_C_pastOf_12
def f_C_descendsFrom (x : ComV) (y : ComV) : Option (Int32) :=
  Option.bind (f_V_isIn x.2.2.2.2.2.1 y.1) (fun v8 =>
    if zb_z v8 then
      some v8
    else
      none)
set_option maxHeartbeats 4000000 in
set_option maxRecDepth 100000 in
theorem c_C_descendsFrom (l : Launch) (D : va_G) (tys : List (ClassId × FieldType)) (h0 : Nat) (h1 : Nat) (x : ComV) (y : ComV) (v : Int32) (hres : f_C_descendsFrom x y = some v) : Met l y_C_descendsFrom w_C_descendsFrom ({ frames := 1, cells := 0, slots := 0, locals := 22 } : Room) (va_Pc ([.ref h0, .ref h1]) (zro D tys ([(h0, zcC x), (h1, zcC y)]))) (vp_Si (fun r : Int32 => r = v)) 0 0 (fun _ => False) := by
  refine Met.ofW (cc := b_C_descendsFrom) (maxL := 2) (ret := (some .boolean)) (by decide) rfl ?_
  intro p e s m args below meth c s₁ B hml hv
  obtain ⟨rfl, hP, hK, hN⟩ := hv
  have hx := B.exec
  have hb := B.bytes
  have hr := B.returns
  have hts : ∀ w ∈ zt, w.before ([.ref h0, .ref h1].toArray) s = true := fun w h => atoms_spec (ws := w_C_descendsFrom) B.pre w (List.mem_cons_of_mem _ h)
  have hown : s.vm.findClass R_C = some m.cls := findClass_of_methodNamed B.named
  have hlocks := B.notSynchronized
  have hl := lv_entry ([.ref h0, .ref h1]) (n := 2) (Nat.le_of_ble_eq_true rfl)
  rw [lg_entry_eq]
  generalize (lg_sl ([.ref h0, .ref h1]) ++ List.replicate (2 - (lg_sl ([.ref h0, .ref h1])).length) Slot.unset).toArray = ls at hl ⊢
  have hl : lv_has ls 2 [(0, .ref h0), (1, .ref h1)] := hl
  unfold f_C_descendsFrom at hres
  refine lv_aload_n hx hb d_C_descendsFrom_0 rfl (lv_at hl 0 rfl) ?_
  refine va_get (D := D) (ci := 1) (v := .long x.2.2.2.2.2.1) (C := R_C) (T := T_C) (N := 7) hx hb hts in_C hown hK hP (0) rfl rfl 5 (by decide) (hts _ k_260) (fun _ h9 => h9) rfl d_C_descendsFrom_1 ?_
  refine lv_aload_n hx hb d_C_descendsFrom_4 rfl (lv_at hl 1 rfl) ?_
  refine va_get (D := D) (ci := 1) (v := .int y.1) (C := R_C) (T := T_C) (N := 7) hx hb hts in_C hown hK hP (1) rfl rfl 0 (by decide) (hts _ k_250) (fun _ h9 => h9) rfl d_C_descendsFrom_5 ?_
  obtain ⟨v8, hc8, hres⟩ := zo_b hres
  refine vp_callSi (va_Run.run (va_runSN (As := [.long x.2.2.2.2.2.1, .int y.1]) (rest := []) ⟨hx, hb, hml, hown, hts⟩ (c_V_isIn l D tys x.2.2.2.2.2.1 y.1 v8 hc8) ⟨va_cnB 2 hts g_V_isIn rfl rfl rfl hN.2.2.2.2.1 (hts _ k_29) hd_V_isIn ⟨Nat.le_of_ble_eq_true rfl, Nat.le_of_ble_eq_true rfl⟩, hts _ k_196, trivial⟩ ⟨zro_b _, zro_p va_Pnil hK hN _⟩ rfl rfl hl.1 rfl (lv_room (Nat.le_of_ble_eq_true rfl)) d_C_descendsFrom_8 ⟨Nat.zero_le _, Nat.zero_le _⟩)) (fun r_8 er_8 => ?_)
  have er_8 := er_8.symm
  subst er_8
  by_cases kz_11 : zb_z v8
  · have hres := zi_p kz_11 hres
    have hz_11 := zb_n kz_11
    obtain rfl := Option.some.inj hres
    exact W.zret (v := v8) (ty := .boolean) hx hb hr hz_11 (fun t ht hW => ⟨_, rfl, rfl, ht⟩) (fun _ hq => by cases hq) d_C_descendsFrom_11
  · exact absurd (zi_n kz_11 hres) (by simp)
def f_C_properPast (x : ComV) : Option (Int64) :=
  some (x.2.2.2.2.2.1 &&& ((zs_l 1 x.1) ^^^ (-1)))
set_option maxHeartbeats 4000000 in
set_option maxRecDepth 100000 in
theorem c_C_properPast (l : Launch) (D : va_G) (tys : List (ClassId × FieldType)) (h0 : Nat) (x : ComV) (v : Int64) (hres : f_C_properPast x = some v) : Met l y_C_properPast w_C_properPast ({ frames := 0, cells := 0, slots := 0, locals := 0 } : Room) (va_Pc ([.ref h0]) (zro D tys ([(h0, zcC x)]))) (vp_Sl (fun r : Int64 => r = v)) 0 0 (fun _ => False) := by
  refine Met.ofW (cc := b_C_properPast) (maxL := 1) (ret := (some .long)) (by decide) rfl ?_
  intro p e s m args below meth c s₁ B hml hv
  obtain ⟨rfl, hP, hK, hN⟩ := hv
  have hx := B.exec
  have hb := B.bytes
  have hr := B.returns
  have hts : ∀ w ∈ zt, w.before ([.ref h0].toArray) s = true := fun w h => atoms_spec (ws := w_C_properPast) B.pre w (List.mem_cons_of_mem _ h)
  have hown : s.vm.findClass R_C = some m.cls := findClass_of_methodNamed B.named
  have hlocks := B.notSynchronized
  have hl := lv_entry ([.ref h0]) (n := 1) (Nat.le_of_ble_eq_true rfl)
  rw [lg_entry_eq]
  generalize (lg_sl ([.ref h0]) ++ List.replicate (1 - (lg_sl ([.ref h0])).length) Slot.unset).toArray = ls at hl ⊢
  have hl : lv_has ls 1 [(0, .ref h0)] := hl
  unfold f_C_properPast at hres
  refine lv_aload_n hx hb d_C_properPast_0 rfl (lv_at hl 0 rfl) ?_
  refine va_get (D := D) (ci := 1) (v := .long x.2.2.2.2.2.1) (C := R_C) (T := T_C) (N := 7) hx hb hts in_C hown hK hP (0) rfl rfl 5 (by decide) (hts _ k_260) (fun _ h9 => h9) rfl d_C_properPast_1 ?_
  refine lv_lconst (v := 1) hx hb d_C_properPast_4 (by decide) ?_
  refine lv_aload_n hx hb d_C_properPast_5 rfl (lv_at hl 0 rfl) ?_
  refine va_get (D := D) (ci := 1) (v := .int x.1) (C := R_C) (T := T_C) (N := 7) hx hb hts in_C hown hK hP (0) rfl rfl 0 (by decide) (hts _ k_250) (fun _ h9 => h9) rfl d_C_properPast_6 ?_
  refine lv_lshl (v := (zs_l 1 x.1)) hx hb d_C_properPast_9 rfl ?_
  refine lv_ldc2 (v := (-1)) hx hb hown (hts _ k_317) d_C_properPast_10 ?_
  refine lv_lxor hx hb d_C_properPast_13 ?_
  refine lv_land hx hb d_C_properPast_14 ?_
  obtain rfl := Option.some.inj hres
  exact W.lret (v := (x.2.2.2.2.2.1 &&& ((zs_l 1 x.1) ^^^ (-1)))) hx hb hr (fun t ht hW => ⟨_, rfl, rfl, ht⟩) (fun _ hq => by cases hq) d_C_properPast_15
def f_C_hashOfParents_nn : Option (Int64) :=
  Option.bind (f_C_mixed (-3750763034362895579) 0) (fun v8 =>
    some v8)
set_option maxHeartbeats 4000000 in
set_option maxRecDepth 100000 in
theorem c_C_hashOfParents_nn (l : Launch) (D : va_G) (tys : List (ClassId × FieldType)) (v : Int64) (hres : f_C_hashOfParents_nn = some v) : Met l y_C_hashOfParents w_C_hashOfParents ({ frames := 1, cells := 0, slots := 0, locals := 26 } : Room) (va_Pc ([.null, .null]) (zro D tys ([]))) (vp_Sl (fun r : Int64 => r = v)) 0 0 (fun _ => False) := by
  refine Met.ofW (cc := b_C_hashOfParents) (maxL := 2) (ret := (some .long)) (by decide) rfl ?_
  intro p e s m args below meth c s₁ B hml hv
  obtain ⟨rfl, hP, hK, hN⟩ := hv
  have hx := B.exec
  have hb := B.bytes
  have hr := B.returns
  have hts : ∀ w ∈ zt, w.before ([.null, .null].toArray) s = true := fun w h => atoms_spec (ws := w_C_hashOfParents) B.pre w (List.mem_cons_of_mem _ h)
  have hown : s.vm.findClass R_C = some m.cls := findClass_of_methodNamed B.named
  have hlocks := B.notSynchronized
  have hl := lv_entry ([.null, .null]) (n := 2) (Nat.le_of_ble_eq_true rfl)
  rw [lg_entry_eq]
  generalize (lg_sl ([.null, .null]) ++ List.replicate (2 - (lg_sl ([.null, .null])).length) Slot.unset).toArray = ls at hl ⊢
  have hl : lv_has ls 2 [(0, .null), (1, .null)] := hl
  unfold f_C_hashOfParents_nn at hres
  refine lv_aload_nN hx hb d_C_hashOfParents_0 rfl (lv_at hl 0 rfl) ?_
  refine lv_ifnonnullN hx hb d_C_hashOfParents_1 ?_
  refine lv_ldc2 (v := (-3750763034362895579)) hx hb hown (hts _ k_239) d_C_hashOfParents_4 ?_
  refine lv_lconst (v := 0) hx hb d_C_hashOfParents_7 (by decide) ?_
  obtain ⟨v8, hc8, hres⟩ := zo_b hres
  refine vp_callSl (va_Run.run (va_runS (As := [.long (-3750763034362895579), .long 0]) (rest := []) ⟨hx, hb, hml, hown, hts⟩ (c_C_mixed l D tys (-3750763034362895579) 0 v8 hc8) (va_cwS 2 hts (zg_S k_240 k_241 k_35 g_C_mixed) rfl rfl rfl hd_C_mixed ⟨Nat.le_of_ble_eq_true rfl, Nat.le_of_ble_eq_true rfl⟩) ⟨zro_b _, zro_p va_Pnil hK hN _⟩ rfl rfl hl.1 rfl (lv_room (Nat.le_of_ble_eq_true rfl)) d_C_hashOfParents_8 ⟨Nat.zero_le _, Nat.zero_le _⟩)) (fun r_8 er_8 => ?_)
  have er_8 := er_8.symm
  subst er_8
  obtain rfl := Option.some.inj hres
  exact W.lret (v := v8) hx hb hr (fun t ht hW => ⟨_, rfl, rfl, ht⟩) (fun _ hq => by cases hq) d_C_hashOfParents_11
def f_C_hashOfParents_rn (x : ComV) : Option (Int64) :=
  Option.bind (f_C_mixed (-3750763034362895579) 1) (fun v20 =>
    Option.bind (f_C_mixed v20 x.2.2.2.2.2.2) (fun v27 =>
      some v27))
set_option maxHeartbeats 4000000 in
set_option maxRecDepth 100000 in
theorem c_C_hashOfParents_rn (l : Launch) (D : va_G) (tys : List (ClassId × FieldType)) (h0 : Nat) (x : ComV) (v : Int64) (hres : f_C_hashOfParents_rn x = some v) : Met l y_C_hashOfParents w_C_hashOfParents ({ frames := 1, cells := 0, slots := 0, locals := 26 } : Room) (va_Pc ([.ref h0, .null]) (zro D tys ([(h0, zcC x)]))) (vp_Sl (fun r : Int64 => r = v)) 0 0 (fun _ => False) := by
  refine Met.ofW (cc := b_C_hashOfParents) (maxL := 2) (ret := (some .long)) (by decide) rfl ?_
  intro p e s m args below meth c s₁ B hml hv
  obtain ⟨rfl, hP, hK, hN⟩ := hv
  have hx := B.exec
  have hb := B.bytes
  have hr := B.returns
  have hts : ∀ w ∈ zt, w.before ([.ref h0, .null].toArray) s = true := fun w h => atoms_spec (ws := w_C_hashOfParents) B.pre w (List.mem_cons_of_mem _ h)
  have hown : s.vm.findClass R_C = some m.cls := findClass_of_methodNamed B.named
  have hlocks := B.notSynchronized
  have hl := lv_entry ([.ref h0, .null]) (n := 2) (Nat.le_of_ble_eq_true rfl)
  rw [lg_entry_eq]
  generalize (lg_sl ([.ref h0, .null]) ++ List.replicate (2 - (lg_sl ([.ref h0, .null])).length) Slot.unset).toArray = ls at hl ⊢
  have hl : lv_has ls 2 [(0, .ref h0), (1, .null)] := hl
  unfold f_C_hashOfParents_rn at hres
  refine lv_aload_n hx hb d_C_hashOfParents_0 rfl (lv_at hl 0 rfl) ?_
  refine lv_ifnonnull (tgt := 12) hx hb d_C_hashOfParents_1 (by decide) ?_
  refine lv_aload_nN hx hb d_C_hashOfParents_12 rfl (lv_at hl 1 rfl) ?_
  refine lv_ifnonnullN hx hb d_C_hashOfParents_13 ?_
  refine lv_ldc2 (v := (-3750763034362895579)) hx hb hown (hts _ k_239) d_C_hashOfParents_16 ?_
  refine lv_lconst (v := 1) hx hb d_C_hashOfParents_19 (by decide) ?_
  obtain ⟨v20, hc20, hres⟩ := zo_b hres
  refine vp_callSl (va_Run.run (va_runS (As := [.long (-3750763034362895579), .long 1]) (rest := []) ⟨hx, hb, hml, hown, hts⟩ (c_C_mixed l D tys (-3750763034362895579) 1 v20 hc20) (va_cwS 2 hts (zg_S k_240 k_241 k_35 g_C_mixed) rfl rfl rfl hd_C_mixed ⟨Nat.le_of_ble_eq_true rfl, Nat.le_of_ble_eq_true rfl⟩) ⟨zro_b _, zro_p va_Pnil hK hN _⟩ rfl rfl hl.1 rfl (lv_room (Nat.le_of_ble_eq_true rfl)) d_C_hashOfParents_20 ⟨Nat.zero_le _, Nat.zero_le _⟩)) (fun r_20 er_20 => ?_)
  have er_20 := er_20.symm
  subst er_20
  refine lv_aload_n hx hb d_C_hashOfParents_23 rfl (lv_at hl 0 rfl) ?_
  refine va_get (D := D) (ci := 1) (v := .long x.2.2.2.2.2.2) (C := R_C) (T := T_C) (N := 7) hx hb hts in_C hown hK hP (0) rfl rfl 6 (by decide) (hts _ k_262) (fun _ h9 => h9) rfl d_C_hashOfParents_24 ?_
  obtain ⟨v27, hc27, hres⟩ := zo_b hres
  refine vp_callSl (va_Run.run (va_runS (As := [.long v20, .long x.2.2.2.2.2.2]) (rest := []) ⟨hx, hb, hml, hown, hts⟩ (c_C_mixed l D tys v20 x.2.2.2.2.2.2 v27 hc27) (va_cwS 2 hts (zg_S k_240 k_241 k_35 g_C_mixed) rfl rfl rfl hd_C_mixed ⟨Nat.le_of_ble_eq_true rfl, Nat.le_of_ble_eq_true rfl⟩) ⟨zro_b _, zro_p va_Pnil hK hN _⟩ rfl rfl hl.1 rfl (lv_room (Nat.le_of_ble_eq_true rfl)) d_C_hashOfParents_27 ⟨Nat.zero_le _, Nat.zero_le _⟩)) (fun r_27 er_27 => ?_)
  have er_27 := er_27.symm
  subst er_27
  obtain rfl := Option.some.inj hres
  exact W.lret (v := v27) hx hb hr (fun t ht hW => ⟨_, rfl, rfl, ht⟩) (fun _ hq => by cases hq) d_C_hashOfParents_30
def f_C_hashOfParents_rr (x : ComV) (y : ComV) : Option (Int64) :=
  Option.bind (f_C_mixed (-3750763034362895579) 2) (fun v37 =>
    Option.bind (f_C_mixed v37 x.2.2.2.2.2.2) (fun v44 =>
      Option.bind (f_C_mixed v44 y.2.2.2.2.2.2) (fun v51 =>
        some v51)))
set_option maxHeartbeats 4000000 in
set_option maxRecDepth 100000 in
theorem c_C_hashOfParents_rr (l : Launch) (D : va_G) (tys : List (ClassId × FieldType)) (h0 : Nat) (h1 : Nat) (x : ComV) (y : ComV) (v : Int64) (hres : f_C_hashOfParents_rr x y = some v) : Met l y_C_hashOfParents w_C_hashOfParents ({ frames := 1, cells := 0, slots := 0, locals := 26 } : Room) (va_Pc ([.ref h0, .ref h1]) (zro D tys ([(h0, zcC x), (h1, zcC y)]))) (vp_Sl (fun r : Int64 => r = v)) 0 0 (fun _ => False) := by
  refine Met.ofW (cc := b_C_hashOfParents) (maxL := 2) (ret := (some .long)) (by decide) rfl ?_
  intro p e s m args below meth c s₁ B hml hv
  obtain ⟨rfl, hP, hK, hN⟩ := hv
  have hx := B.exec
  have hb := B.bytes
  have hr := B.returns
  have hts : ∀ w ∈ zt, w.before ([.ref h0, .ref h1].toArray) s = true := fun w h => atoms_spec (ws := w_C_hashOfParents) B.pre w (List.mem_cons_of_mem _ h)
  have hown : s.vm.findClass R_C = some m.cls := findClass_of_methodNamed B.named
  have hlocks := B.notSynchronized
  have hl := lv_entry ([.ref h0, .ref h1]) (n := 2) (Nat.le_of_ble_eq_true rfl)
  rw [lg_entry_eq]
  generalize (lg_sl ([.ref h0, .ref h1]) ++ List.replicate (2 - (lg_sl ([.ref h0, .ref h1])).length) Slot.unset).toArray = ls at hl ⊢
  have hl : lv_has ls 2 [(0, .ref h0), (1, .ref h1)] := hl
  unfold f_C_hashOfParents_rr at hres
  refine lv_aload_n hx hb d_C_hashOfParents_0 rfl (lv_at hl 0 rfl) ?_
  refine lv_ifnonnull (tgt := 12) hx hb d_C_hashOfParents_1 (by decide) ?_
  refine lv_aload_n hx hb d_C_hashOfParents_12 rfl (lv_at hl 1 rfl) ?_
  refine lv_ifnonnull (tgt := 31) hx hb d_C_hashOfParents_13 (by decide) ?_
  refine lv_ldc2 (v := (-3750763034362895579)) hx hb hown (hts _ k_239) d_C_hashOfParents_31 ?_
  refine lv_ldc2 (v := 2) hx hb hown (hts _ k_245) d_C_hashOfParents_34 ?_
  obtain ⟨v37, hc37, hres⟩ := zo_b hres
  refine vp_callSl (va_Run.run (va_runS (As := [.long (-3750763034362895579), .long 2]) (rest := []) ⟨hx, hb, hml, hown, hts⟩ (c_C_mixed l D tys (-3750763034362895579) 2 v37 hc37) (va_cwS 2 hts (zg_S k_240 k_241 k_35 g_C_mixed) rfl rfl rfl hd_C_mixed ⟨Nat.le_of_ble_eq_true rfl, Nat.le_of_ble_eq_true rfl⟩) ⟨zro_b _, zro_p va_Pnil hK hN _⟩ rfl rfl hl.1 rfl (lv_room (Nat.le_of_ble_eq_true rfl)) d_C_hashOfParents_37 ⟨Nat.zero_le _, Nat.zero_le _⟩)) (fun r_37 er_37 => ?_)
  have er_37 := er_37.symm
  subst er_37
  refine lv_aload_n hx hb d_C_hashOfParents_40 rfl (lv_at hl 0 rfl) ?_
  refine va_get (D := D) (ci := 1) (v := .long x.2.2.2.2.2.2) (C := R_C) (T := T_C) (N := 7) hx hb hts in_C hown hK hP (0) rfl rfl 6 (by decide) (hts _ k_262) (fun _ h9 => h9) rfl d_C_hashOfParents_41 ?_
  obtain ⟨v44, hc44, hres⟩ := zo_b hres
  refine vp_callSl (va_Run.run (va_runS (As := [.long v37, .long x.2.2.2.2.2.2]) (rest := []) ⟨hx, hb, hml, hown, hts⟩ (c_C_mixed l D tys v37 x.2.2.2.2.2.2 v44 hc44) (va_cwS 2 hts (zg_S k_240 k_241 k_35 g_C_mixed) rfl rfl rfl hd_C_mixed ⟨Nat.le_of_ble_eq_true rfl, Nat.le_of_ble_eq_true rfl⟩) ⟨zro_b _, zro_p va_Pnil hK hN _⟩ rfl rfl hl.1 rfl (lv_room (Nat.le_of_ble_eq_true rfl)) d_C_hashOfParents_44 ⟨Nat.zero_le _, Nat.zero_le _⟩)) (fun r_44 er_44 => ?_)
  have er_44 := er_44.symm
  subst er_44
  refine lv_aload_n hx hb d_C_hashOfParents_47 rfl (lv_at hl 1 rfl) ?_
  refine va_get (D := D) (ci := 1) (v := .long y.2.2.2.2.2.2) (C := R_C) (T := T_C) (N := 7) hx hb hts in_C hown hK hP (1) rfl rfl 6 (by decide) (hts _ k_262) (fun _ h9 => h9) rfl d_C_hashOfParents_48 ?_
  obtain ⟨v51, hc51, hres⟩ := zo_b hres
  refine vp_callSl (va_Run.run (va_runS (As := [.long v44, .long y.2.2.2.2.2.2]) (rest := []) ⟨hx, hb, hml, hown, hts⟩ (c_C_mixed l D tys v44 y.2.2.2.2.2.2 v51 hc51) (va_cwS 2 hts (zg_S k_240 k_241 k_35 g_C_mixed) rfl rfl rfl hd_C_mixed ⟨Nat.le_of_ble_eq_true rfl, Nat.le_of_ble_eq_true rfl⟩) ⟨zro_b _, zro_p va_Pnil hK hN _⟩ rfl rfl hl.1 rfl (lv_room (Nat.le_of_ble_eq_true rfl)) d_C_hashOfParents_51 ⟨Nat.zero_le _, Nat.zero_le _⟩)) (fun r_51 er_51 => ?_)
  have er_51 := er_51.symm
  subst er_51
  obtain rfl := Option.some.inj hres
  exact W.lret (v := v51) hx hb hr (fun t ht hW => ⟨_, rfl, rfl, ht⟩) (fun _ hq => by cases hq) d_C_hashOfParents_54
def L_M_leastFree_2 (bf : Nat → Int32) (k : Int32) : Nat → Int32 → Option (Int32 ⊕ Int32)
  | 0, _ => none
  | n + 1, x2_2 =>
    if 16 ≤ x2_2 then
      some (Sum.inr x2_2)
    else
      Option.bind (f_V_isIn k.toInt64 x2_2) (fun v11 =>
        if v11 = 0 then
          L_M_leastFree_2 bf k n (x2_2 + 1)
        else
          if zin x2_2 16 then
            if ((bf x2_2.toNatClampNeg) &&& k) = 0 then
              some (Sum.inl x2_2)
            else
              L_M_leastFree_2 bf k n (x2_2 + 1)
          else
            none)
def f_M_leastFree (bf : Nat → Int32) (k : Int32) : Option (Int32) :=
  Option.bind (L_M_leastFree_2 bf k zfuel 0) (fun w2 =>
    zs_m w2 (fun r => some r) (fun u2 =>
      some (-1)))
set_option maxHeartbeats 4000000 in
set_option maxRecDepth 100000 in
theorem c_M_leastFree (l : Launch) (D : va_G) (tys : List (ClassId × FieldType)) (h0 : Nat) (qb : Nat) (cB : ClassId) (tB : Nat) (htB : tys[tB]? = some (cB, FieldType.int)) (bf : Nat → Int32) (k : Int32) (v : Int32) (hres : f_M_leastFree bf k = some v) : Met l y_M_leastFree w_M_leastFree ({ frames := 1, cells := 0, slots := 0, locals := 22 } : Room) (va_Pc ([.ref h0, .int k]) (zro D tys ([(h0, .inr (2, [.ref qb])), (qb, .inl (cB, 16, .inl bf))]))) (vp_Si (fun r : Int32 => r = v)) 0 0 (fun _ => False) := by
  refine Met.ofW (cc := b_M_leastFree) (maxL := 3) (ret := (some .int)) (by decide) rfl ?_
  intro p e s m args below meth c s₁ B hml hv
  obtain ⟨rfl, hP, hK, hN⟩ := hv
  have hx := B.exec
  have hb := B.bytes
  have hr := B.returns
  have hts : ∀ w ∈ zt, w.before ([.ref h0, .int k].toArray) s = true := fun w h => atoms_spec (ws := w_M_leastFree) B.pre w (List.mem_cons_of_mem _ h)
  have hown : s.vm.findClass R_M = some m.cls := findClass_of_methodNamed B.named
  have hlocks := B.notSynchronized
  have hl := lv_entry ([.ref h0, .int k]) (n := 3) (Nat.le_of_ble_eq_true rfl)
  rw [lg_entry_eq]
  generalize (lg_sl ([.ref h0, .int k]) ++ List.replicate (3 - (lg_sl ([.ref h0, .int k])).length) Slot.unset).toArray = ls at hl ⊢
  have hl : lv_has ls 3 [(0, .ref h0), (1, .int k)] := hl
  unfold f_M_leastFree at hres
  refine lv_iconst (v := 0) hx hb d_M_leastFree_0 (by decide) ?_
  refine lv_istore_n (lv' := [(2, .int 0), (0, .ref h0), (1, .int k)]) hx hb d_M_leastFree_1 rfl hl (by decide) rfl (fun ls hl => ?_)
  obtain ⟨w2, hL2, hres⟩ := zo_b hres
  have hk2 : ∀ (u2 : Int32), w2 = Sum.inr u2 → ∀ (ls : Array Slot), lv_has ls 3 [(2, .int u2), (0, .ref h0), (1, .int k)] → W p l e (headSpec w_M_leastFree ({ frames := 1, cells := 0, slots := 0, locals := 22 } : Room)).room s m ([.ref h0, .int k].toArray) below meth c s.heap [] 0 0 (MQ below (vp_Si (fun r : Int32 => r = v)) ([.ref h0, .int k].toArray) s 0 0 (fun _ => False)) (F0 m 36 ls []) := by
    intro u2 hu2 ls hl
    subst hu2
    have hres := zs_r hres
    refine lv_iconst (v := (-1)) hx hb d_M_leastFree_36 (by decide) ?_
    obtain rfl := Option.some.inj hres
    exact W.iret (v := (-1)) hx hb hr (fun t ht hW => ⟨_, rfl, rfl, ht⟩) (fun _ hq => by cases hq) d_M_leastFree_37
  have hloop2 : ∀ (n : Nat) (x2_2 : Int32) (ls : Array Slot), lv_has ls 3 [(2, .int x2_2), (0, .ref h0), (1, .int k)] → L_M_leastFree_2 bf k n x2_2 = some w2 → W p l e (headSpec w_M_leastFree ({ frames := 1, cells := 0, slots := 0, locals := 22 } : Room)).room s m ([.ref h0, .int k].toArray) below meth c s.heap [] 0 0 (MQ below (vp_Si (fun r : Int32 => r = v)) ([.ref h0, .int k].toArray) s 0 0 (fun _ => False)) (F0 m 2 ls []) := by
    intro n
    induction n with
    | zero => intro x2_2 ls hl hL2; cases hL2
    | succ n ih =>
      intro x2_2 ls hl hL2
      rw [L_M_leastFree_2] at hL2
      refine lv_iload_n hx hb d_M_leastFree_2 rfl (lv_at hl 0 rfl) ?_
      refine lv_bipush (v := 16) hx hb d_M_leastFree_3 (by decide) ?_
      refine lv_icmp_ge (tgt := 36) hx hb d_M_leastFree_5 (by decide) (fun c_5 => ?_) (fun c_5 => ?_)
      · have hL2 := zi_p c_5 hL2
        obtain rfl := Option.some.inj hL2
        exact hk2 _ rfl ls (lv_sub hl [0, 1, 2] rfl)
      · have hL2 := zi_n c_5 hL2
        refine lv_iload_n hx hb d_M_leastFree_8 rfl (lv_at hl 2 rfl) ?_
        refine lv_i2l (v := k.toInt64) hx hb d_M_leastFree_9 rfl ?_
        refine lv_iload_n hx hb d_M_leastFree_10 rfl (lv_at hl 0 rfl) ?_
        obtain ⟨v11, hc11, hL2⟩ := zo_b hL2
        refine vp_callSi (va_Run.run (va_runSN (As := [.long k.toInt64, .int x2_2]) (rest := []) ⟨hx, hb, hml, hown, hts⟩ (c_V_isIn l D tys k.toInt64 x2_2 v11 hc11) ⟨va_cnB 2 hts g_V_isIn rfl rfl rfl hN.2.2.2.2.2.1 (hts _ k_29) hd_V_isIn ⟨Nat.le_of_ble_eq_true rfl, Nat.le_of_ble_eq_true rfl⟩, hts _ k_196, trivial⟩ ⟨zro_b _, zro_p va_Pnil hK hN _⟩ rfl rfl hl.1 rfl (lv_room (Nat.le_of_ble_eq_true rfl)) d_M_leastFree_11 ⟨Nat.zero_le _, Nat.zero_le _⟩)) (fun r_11 er_11 => ?_)
        have er_11 := er_11.symm
        subst er_11
        refine lv_if_eq (tgt := 30) hx hb d_M_leastFree_14 (by decide) (fun c_14 => ?_) (fun c_14 => ?_)
        · have hL2 := zi_p c_14 hL2
          refine lv_iinc (v := (x2_2 + 1)) (lv' := [(2, .int (x2_2 + 1)), (0, .ref h0), (1, .int k)]) hx hb d_M_leastFree_30 hl (k := 0) rfl rfl (by decide) rfl (fun ls hl => ?_)
          refine lv_goto (tgt := 2) hx hb d_M_leastFree_33 (by decide) ?_
          exact ih (x2_2 + 1) ls (lv_sub hl [0, 1, 2] rfl) hL2
        · have hL2 := zi_n c_14 hL2
          refine lv_aload_n hx hb d_M_leastFree_17 rfl (lv_at hl 1 rfl) ?_
          refine va_get (D := D) (ci := 2) (v := .ref qb) (C := R_M) (T := T_M) (N := 1) hx hb hts in_M hown hK hP (0) rfl rfl 0 (by decide) (hts _ k_131) (fun _ h9 => h9) rfl d_M_leastFree_18 ?_
          refine lv_iload_n hx hb d_M_leastFree_21 rfl (lv_at hl 0 rfl) ?_
          by_cases ck_22 : zin x2_2 16
          · have hL2 := zi_p ck_22 hL2
            refine va_iald hx hb hK hP 1 tB rfl htB ck_22 d_M_leastFree_22 ?_
            refine lv_iload_n hx hb d_M_leastFree_23 rfl (lv_at hl 2 rfl) ?_
            refine lv_iand hx hb d_M_leastFree_24 ?_
            refine lv_if_ne (tgt := 30) hx hb d_M_leastFree_25 (by decide) (fun c_25 => ?_) (fun c_25 => ?_)
            · have hL2 := zi_n c_25 hL2
              refine lv_iinc (v := (x2_2 + 1)) (lv' := [(2, .int (x2_2 + 1)), (0, .ref h0), (1, .int k)]) hx hb d_M_leastFree_30 hl (k := 0) rfl rfl (by decide) rfl (fun ls hl => ?_)
              refine lv_goto (tgt := 2) hx hb d_M_leastFree_33 (by decide) ?_
              exact ih (x2_2 + 1) ls (lv_sub hl [0, 1, 2] rfl) hL2
            · have hL2 := zi_p c_25 hL2
              refine lv_iload_n hx hb d_M_leastFree_28 rfl (lv_at hl 0 rfl) ?_
              obtain rfl := Option.some.inj hL2
              obtain rfl := Option.some.inj hres
              exact W.iret (v := x2_2) hx hb hr (fun t ht hW => ⟨_, rfl, rfl, ht⟩) (fun _ hq => by cases hq) d_M_leastFree_29
          · exact absurd (zi_n ck_22 hL2) (by simp)
  exact hloop2 zfuel 0 ls (lv_sub hl [0, 1, 2] rfl) hL2
abbrev qd_M_mergedQueue (D : va_G) (tys : List (ClassId × FieldType)) (h0 : Nat) (qb : Nat) (cB : ClassId) (tB : Nat) (bf : Nat → Int32) (x : Int64) (y : Int64) (z : Int64) (v : Int64 × (Nat → Int32)) (A : Nat → Prop) : Array Value → State → Outcome → State → Prop := va_Ql (fun (r : Int64) (_ : Unit) => r = v.1) (fun _ t => zwd D tys (A) ([(qb, .inl (cB, 16, .inl v.2))] ++ [(h0, .inr (2, [.ref qb]))]) t) (A)

def L_M_mergedQueue_98 (v20 : Int32) (w39 : Int32 × (Nat → Int32)) : Nat → Int32 → Int64 → Int32 → Option ((Int64 × (Nat → Int32)) ⊕ (Int32 × Int64 × Int32))
  | 0, _, _, _ => none
  | n + 1, x98_11, x98_9, x98_7 =>
    if v20 ≤ x98_11 then
      some (Sum.inr (x98_11, x98_9, x98_7))
    else
      Option.bind (f_M_leastFree w39.2 x98_7) (fun v108 =>
        if v108 = (-1) then
          some (Sum.inl ((-1), w39.2))
        else
          Option.bind (f_Q_withElement x98_9 x98_11 v108) (fun v129 =>
            L_M_mergedQueue_98 v20 w39 n (x98_11 + 1) v129 (x98_7 &&& ((1 <<< (v108 &&& 31)) ^^^ (-1)))))
def L_M_mergedQueue_39 (x : Int64) (y : Int64) (z : Int64) (v13 : Int32) : Nat → Int32 → (Nat → Int32) → Option (Int32 × (Nat → Int32))
  | 0, _, _ => none
  | n + 1, x39_9, g39_0 =>
    if 16 ≤ x39_9 then
      some (x39_9, g39_0)
    else
      Option.bind (f_V_isIn v13.toInt64 x39_9) (fun v51 =>
        if v51 = 0 then
          L_M_mergedQueue_39 x y z v13 n (x39_9 + 1) g39_0
        else
          Option.bind (f_Q_standingBefore x x39_9) (fun v66 =>
            Option.bind (f_Q_standingBefore y x39_9) (fun v72 =>
              Option.bind (f_Q_standingBefore z x39_9) (fun v79 =>
                Option.bind (f_M_mergedSet v66 v72 v79) (fun v82 =>
                  if zin x39_9 16 then
                    L_M_mergedQueue_39 x y z v13 n (x39_9 + 1) (upd g39_0 x39_9.toNatClampNeg v82)
                  else
                    none)))))
def f_M_mergedQueue (bf : Nat → Int32) (x : Int64) (y : Int64) (z : Int64) : Option (Int64 × (Nat → Int32)) :=
  Option.bind (f_Q_members x) (fun v1 =>
    Option.bind (f_Q_members y) (fun v5 =>
      Option.bind (f_Q_members z) (fun v10 =>
        Option.bind (f_M_mergedSet v1 v5 v10) (fun v13 =>
          Option.bind (f_JI_bitCount v13) (fun v20 =>
            if v20 ≤ 8 then
              Option.bind (L_M_mergedQueue_39 x y z v13 zfuel 0 bf) (fun w39 =>
                Option.bind (L_M_mergedQueue_98 v20 w39 zfuel 0 0 v13) (fun w98 =>
                  zs_m w98 (fun r => some r) (fun u98 =>
                    some (u98.2.1, w39.2))))
            else
              some ((-1), bf))))))
set_option maxHeartbeats 4000000 in
set_option maxRecDepth 100000 in
theorem c_M_mergedQueue (l : Launch) (D : va_G) (tys : List (ClassId × FieldType)) (sz : Nat) (h0 : Nat) (qb : Nat) (cB : ClassId) (tB : Nat) (htB : tys[tB]? = some (cB, FieldType.int)) (bf : Nat → Int32) (x : Int64) (y : Int64) (z : Int64) (v : Int64 × (Nat → Int32)) (hres : f_M_mergedQueue bf x y z = some v) : Met l y_M_mergedQueue w_M_mergedQueue ({ frames := 2, cells := 0, slots := 0, locals := 47 } : Room) (va_Pc ([.ref h0, .long x, .long y, .long z]) (zrw D tys sz ([(qb, .inl (cB, 16, .inl bf))] ++ [(h0, .inr (2, [.ref qb]))]))) (qd_M_mergedQueue D tys h0 qb cB tB bf x y z v (va_A ([(qb, .inl (cB, 16, .inl bf))] ++ [(h0, .inr (2, [.ref qb]))]) sz)) 0 0 (va_A ([(qb, .inl (cB, 16, .inl bf))] ++ [(h0, .inr (2, [.ref qb]))]) sz) := by
  refine Met.ofW (cc := b_M_mergedQueue) (maxL := 13) (ret := (some .long)) (by decide) rfl ?_
  intro p e s m args below meth c s₁ B hml hv
  obtain ⟨rfl, hsz, hP, hK, hD0, hN⟩ := hv
  have hx := B.exec
  have hb := B.bytes
  have hr := B.returns
  have hts : ∀ w ∈ zt, w.before ([.ref h0, .long x, .long y, .long z].toArray) s = true := fun w h => atoms_spec (ws := w_M_mergedQueue) B.pre w (List.mem_cons_of_mem _ h)
  have hown : s.vm.findClass R_M = some m.cls := findClass_of_methodNamed B.named
  have hlocks := B.notSynchronized
  subst hsz
  have hD := hD0.self (sz := s.heap.size)
  generalize hAe : va_A ([(qb, .inl (cB, 16, .inl bf))] ++ [(h0, .inr (2, [.ref qb]))]) s.heap.size = A at hD ⊢
  have hA : ∀ q : Nat, s.heap.size ≤ q → A q := fun q h => by rw [← hAe]; exact Or.inr h
  have hS : va_S A s.heap s.heap [] := va_S.rf
  have hP : va_P D vwCl ([(qb, .inl (cB, 16, .inl bf)), (h0, .inr (2, [.ref qb]))]) s.heap := hP
  have hD : va_D A ([(qb, .inl (cB, 16, .inl bf)), (h0, .inr (2, [.ref qb]))]) := hD
  have hl := lv_entry ([.ref h0, .long x, .long y, .long z]) (n := 13) (Nat.le_of_ble_eq_true rfl)
  rw [lg_entry_eq]
  generalize (lg_sl ([.ref h0, .long x, .long y, .long z]) ++ List.replicate (13 - (lg_sl ([.ref h0, .long x, .long y, .long z])).length) Slot.unset).toArray = ls at hl ⊢
  have hl : lv_has ls 13 [(0, .ref h0), (1, .long x), (3, .long y), (5, .long z)] := hl
  unfold f_M_mergedQueue at hres
  refine lv_lload_n hx hb d_M_mergedQueue_0 rfl (lv_at hl 1 rfl) ?_
  obtain ⟨v1, hc1, hres⟩ := zo_b hres
  refine vp_callSi (va_Run.run (va_runS (As := [.long x]) (rest := []) ⟨hx, hb, hml, hown, hts⟩ (c_Q_members l D tys x v1 hc1) (va_cwS 1 hts (zg_S k_345 k_199 k_34 g_Q_members) rfl rfl rfl hd_Q_members ⟨Nat.le_of_ble_eq_true rfl, Nat.le_of_ble_eq_true rfl⟩) ⟨zro_b _, zro_p va_Pnil hK hN _⟩ rfl rfl hl.1 rfl (lv_room (Nat.le_of_ble_eq_true rfl)) d_M_mergedQueue_1 ⟨Nat.zero_le _, Nat.zero_le _⟩)) (fun r_1 er_1 => ?_)
  have er_1 := er_1.symm
  subst er_1
  refine lv_lload_n hx hb d_M_mergedQueue_4 rfl (lv_at hl 2 rfl) ?_
  obtain ⟨v5, hc5, hres⟩ := zo_b hres
  refine vp_callSi (va_Run.run (va_runS (As := [.long y]) (rest := [.int v1]) ⟨hx, hb, hml, hown, hts⟩ (c_Q_members l D tys y v5 hc5) (va_cwS 1 hts (zg_S k_345 k_199 k_34 g_Q_members) rfl rfl rfl hd_Q_members ⟨Nat.le_of_ble_eq_true rfl, Nat.le_of_ble_eq_true rfl⟩) ⟨zro_b _, zro_p va_Pnil hK hN _⟩ rfl rfl hl.1 rfl (lv_room (Nat.le_of_ble_eq_true rfl)) d_M_mergedQueue_5 ⟨Nat.zero_le _, Nat.zero_le _⟩)) (fun r_5 er_5 => ?_)
  have er_5 := er_5.symm
  subst er_5
  refine lv_lload hx hb d_M_mergedQueue_8 (lv_at hl 3 rfl) ?_
  obtain ⟨v10, hc10, hres⟩ := zo_b hres
  refine vp_callSi (va_Run.run (va_runS (As := [.long z]) (rest := [.int v5, .int v1]) ⟨hx, hb, hml, hown, hts⟩ (c_Q_members l D tys z v10 hc10) (va_cwS 1 hts (zg_S k_345 k_199 k_34 g_Q_members) rfl rfl rfl hd_Q_members ⟨Nat.le_of_ble_eq_true rfl, Nat.le_of_ble_eq_true rfl⟩) ⟨zro_b _, zro_p va_Pnil hK hN _⟩ rfl rfl hl.1 rfl (lv_room (Nat.le_of_ble_eq_true rfl)) d_M_mergedQueue_10 ⟨Nat.zero_le _, Nat.zero_le _⟩)) (fun r_10 er_10 => ?_)
  have er_10 := er_10.symm
  subst er_10
  obtain ⟨v13, hc13, hres⟩ := zo_b hres
  refine vp_callSi (va_Run.run (va_runS (As := [.int v1, .int v5, .int v10]) (rest := []) ⟨hx, hb, hml, hown, hts⟩ (c_M_mergedSet l D tys v1 v5 v10 v13 hc13) (va_cwS 3 hts (zg_S k_338 k_339 k_31 g_M_mergedSet) rfl rfl rfl hd_M_mergedSet ⟨Nat.le_of_ble_eq_true rfl, Nat.le_of_ble_eq_true rfl⟩) ⟨zro_b _, zro_p va_Pnil hK hN _⟩ rfl rfl hl.1 rfl (lv_room (Nat.le_of_ble_eq_true rfl)) d_M_mergedQueue_13 ⟨Nat.zero_le _, Nat.zero_le _⟩)) (fun r_13 er_13 => ?_)
  have er_13 := er_13.symm
  subst er_13
  refine lv_istore (lv' := [(7, .int v13), (0, .ref h0), (1, .long x), (3, .long y), (5, .long z)]) hx hb d_M_mergedQueue_16 hl (by decide) rfl (fun ls hl => ?_)
  refine lv_iload hx hb d_M_mergedQueue_18 (lv_at hl 0 rfl) ?_
  obtain ⟨v20, hc20, hres⟩ := zo_b hres
  refine vp_callSi (va_Run.run (va_runS (As := [.int v13]) (rest := []) ⟨hx, hb, hml, hown, hts⟩ (c_JI_bitCount l D tys v13 v20 hc20) (va_cwS 1 hts (zg_S k_346 k_347 k_36 g_JI_bitCount) rfl rfl rfl hd_JI_bitCount ⟨Nat.le_of_ble_eq_true rfl, Nat.le_of_ble_eq_true rfl⟩) ⟨zro_b _, zro_p va_Pnil hK hN _⟩ rfl rfl hl.1 rfl (lv_room (Nat.le_of_ble_eq_true rfl)) d_M_mergedQueue_20 ⟨Nat.zero_le _, Nat.zero_le _⟩)) (fun r_20 er_20 => ?_)
  have er_20 := er_20.symm
  subst er_20
  refine lv_istore (lv' := [(8, .int v20), (7, .int v13), (0, .ref h0), (1, .long x), (3, .long y), (5, .long z)]) hx hb d_M_mergedQueue_23 hl (by decide) rfl (fun ls hl => ?_)
  refine lv_iload hx hb d_M_mergedQueue_25 (lv_at hl 0 rfl) ?_
  refine lv_bipush (v := 8) hx hb d_M_mergedQueue_27 (by decide) ?_
  refine lv_icmp_le (tgt := 36) hx hb d_M_mergedQueue_29 (by decide) (fun c_29 => ?_) (fun c_29 => ?_)
  · have hres := zi_p c_29 hres
    refine lv_iconst (v := 0) hx hb d_M_mergedQueue_36 (by decide) ?_
    refine lv_istore (lv' := [(9, .int 0), (8, .int v20), (7, .int v13), (0, .ref h0), (1, .long x), (3, .long y), (5, .long z)]) hx hb d_M_mergedQueue_37 hl (by decide) rfl (fun ls hl => ?_)
    obtain ⟨w39, hL39, hres⟩ := zo_b hres
    have hk39 : ∀ (H : Heap) (locs : List Loc), va_P D vwCl ([(qb, .inl (cB, 16, .inl w39.2)), (h0, .inr (2, [.ref qb]))]) H → va_D A ([(qb, .inl (cB, 16, .inl w39.2)), (h0, .inr (2, [.ref qb]))]) → va_S A s.heap H locs → ∀ (ls : Array Slot), lv_has ls 13 [(9, .int w39.1), (8, .int v20), (7, .int v13), (0, .ref h0), (1, .long x), (3, .long y), (5, .long z)] → W p l e (headSpec w_M_mergedQueue ({ frames := 2, cells := 0, slots := 0, locals := 47 } : Room)).room s m ([.ref h0, .long x, .long y, .long z].toArray) below meth c H locs 0 0 (MQ below (qd_M_mergedQueue D tys h0 qb cB tB bf x y z v A) ([.ref h0, .long x, .long y, .long z].toArray) s 0 0 A) (F0 m 92 ls []) := by
      intro H locs hP hD hS ls hl
      refine lv_lconst (v := 0) hx hb d_M_mergedQueue_92 (by decide) ?_
      refine lv_lstore (lv' := [(9, .long 0), (8, .int v20), (7, .int v13), (0, .ref h0), (1, .long x), (3, .long y), (5, .long z)]) hx hb d_M_mergedQueue_93 hl (by decide) rfl (fun ls hl => ?_)
      refine lv_iconst (v := 0) hx hb d_M_mergedQueue_95 (by decide) ?_
      refine lv_istore (lv' := [(11, .int 0), (9, .long 0), (8, .int v20), (7, .int v13), (0, .ref h0), (1, .long x), (3, .long y), (5, .long z)]) hx hb d_M_mergedQueue_96 hl (by decide) rfl (fun ls hl => ?_)
      obtain ⟨w98, hL98, hres⟩ := zo_b hres
      have hk98 : ∀ (u98 : Int32 × Int64 × Int32), w98 = Sum.inr u98 → ∀ (H : Heap) (locs : List Loc), va_P D vwCl ([(qb, .inl (cB, 16, .inl w39.2)), (h0, .inr (2, [.ref qb]))]) H → va_D A ([(qb, .inl (cB, 16, .inl w39.2)), (h0, .inr (2, [.ref qb]))]) → va_S A s.heap H locs → ∀ (ls : Array Slot), lv_has ls 13 [(11, .int u98.1), (9, .long u98.2.1), (8, .int v20), (7, .int u98.2.2), (0, .ref h0), (1, .long x), (3, .long y), (5, .long z)] → W p l e (headSpec w_M_mergedQueue ({ frames := 2, cells := 0, slots := 0, locals := 47 } : Room)).room s m ([.ref h0, .long x, .long y, .long z].toArray) below meth c H locs 0 0 (MQ below (qd_M_mergedQueue D tys h0 qb cB tB bf x y z v A) ([.ref h0, .long x, .long y, .long z].toArray) s 0 0 A) (F0 m 151 ls []) := by
        intro u98 hu98 H locs hP hD hS ls hl
        subst hu98
        have hres := zs_r hres
        refine lv_lload hx hb d_M_mergedQueue_151 (lv_at hl 1 rfl) ?_
        obtain rfl := Option.some.inj hres
        exact W.lret (v := u98.2.1) hx hb hr (fun t ht hW => ⟨⟨_, (), rfl, rfl, by rw [ht]; exact hP, va_K.moved hW.alike hK, hD⟩, hS.F ht⟩) hS.2.2 d_M_mergedQueue_153
      have hloop98 : ∀ (n : Nat) (x98_11 : Int32) (x98_9 : Int64) (x98_7 : Int32) (H : Heap) (locs : List Loc), va_P D vwCl ([(qb, .inl (cB, 16, .inl w39.2)), (h0, .inr (2, [.ref qb]))]) H → va_D A ([(qb, .inl (cB, 16, .inl w39.2)), (h0, .inr (2, [.ref qb]))]) → va_S A s.heap H locs → ∀ (ls : Array Slot), lv_has ls 13 [(11, .int x98_11), (9, .long x98_9), (8, .int v20), (7, .int x98_7), (0, .ref h0), (1, .long x), (3, .long y), (5, .long z)] → L_M_mergedQueue_98 v20 w39 n x98_11 x98_9 x98_7 = some w98 → W p l e (headSpec w_M_mergedQueue ({ frames := 2, cells := 0, slots := 0, locals := 47 } : Room)).room s m ([.ref h0, .long x, .long y, .long z].toArray) below meth c H locs 0 0 (MQ below (qd_M_mergedQueue D tys h0 qb cB tB bf x y z v A) ([.ref h0, .long x, .long y, .long z].toArray) s 0 0 A) (F0 m 98 ls []) := by
        intro n
        induction n with
        | zero => intro x98_11 x98_9 x98_7 H locs hP hD hS ls hl hL98; cases hL98
        | succ n ih =>
          intro x98_11 x98_9 x98_7 H locs hP hD hS ls hl hL98
          rw [L_M_mergedQueue_98] at hL98
          refine lv_iload hx hb d_M_mergedQueue_98 (lv_at hl 0 rfl) ?_
          refine lv_iload hx hb d_M_mergedQueue_100 (lv_at hl 2 rfl) ?_
          refine lv_icmp_ge (tgt := 151) hx hb d_M_mergedQueue_102 (by decide) (fun c_102 => ?_) (fun c_102 => ?_)
          · have hL98 := zi_p c_102 hL98
            obtain rfl := Option.some.inj hL98
            exact hk98 _ rfl _ _ hP hD hS ls (lv_sub hl [0, 1, 2, 3, 4, 5, 6, 7] rfl)
          · have hL98 := zi_n c_102 hL98
            refine lv_aload_n hx hb d_M_mergedQueue_105 rfl (lv_at hl 4 rfl) ?_
            refine lv_iload hx hb d_M_mergedQueue_106 (lv_at hl 3 rfl) ?_
            obtain ⟨v108, hc108, hL98⟩ := zo_b hL98
            have hPc := zsubP hP (wc := [(h0, .inr (2, [.ref qb])), (qb, .inl (cB, 16, .inl w39.2))]) (is := [1, 0]) (zcons rfl (zcons rfl znil))
            refine vp_callSi (va_Run.run (va_runV (As := [.int x98_7]) (rest := []) ⟨hx, hb, hml, hown, hts⟩ (c_M_leastFree l D tys h0 qb cB tB htB w39.2 x98_7 v108 hc108) (cwV 1 hts (zg_V k_357 k_359 k_8 k_31 g_M_leastFree) rfl rfl rfl ⟨rfl, hd_M_leastFree⟩ ⟨Nat.le_of_ble_eq_true rfl, Nat.le_of_ble_eq_true rfl⟩) ⟨zro_b _, va_recv hK hPc (q0 := 0) rfl rfl, zro_p hPc hK hN _⟩ rfl rfl hl.1 rfl (lv_room (Nat.le_of_ble_eq_true rfl)) d_M_mergedQueue_108 ⟨Nat.zero_le _, Nat.zero_le _⟩)) (fun r_108 er_108 => ?_)
            have er_108 := er_108.symm
            subst er_108
            refine lv_istore (lv' := [(12, .int v108), (11, .int x98_11), (9, .long x98_9), (8, .int v20), (7, .int x98_7), (0, .ref h0), (1, .long x), (3, .long y), (5, .long z)]) hx hb d_M_mergedQueue_111 hl (by decide) rfl (fun ls hl => ?_)
            refine lv_iload hx hb d_M_mergedQueue_113 (lv_at hl 0 rfl) ?_
            refine lv_iconst (v := (-1)) hx hb d_M_mergedQueue_115 (by decide) ?_
            refine lv_icmp_ne (tgt := 123) hx hb d_M_mergedQueue_116 (by decide) (fun c_116 => ?_) (fun c_116 => ?_)
            · have hL98 := zi_n c_116 hL98
              refine lv_lload hx hb d_M_mergedQueue_123 (lv_at hl 2 rfl) ?_
              refine lv_iload hx hb d_M_mergedQueue_125 (lv_at hl 1 rfl) ?_
              refine lv_iload hx hb d_M_mergedQueue_127 (lv_at hl 0 rfl) ?_
              obtain ⟨v129, hc129, hL98⟩ := zo_b hL98
              refine vp_callSl (va_Run.run (va_runS (As := [.long x98_9, .int x98_11, .int v108]) (rest := []) ⟨hx, hb, hml, hown, hts⟩ (c_Q_withElement l D tys x98_9 x98_11 v108 v129 hc129) (va_cwS 3 hts (zg_S k_361 k_216 k_34 g_Q_withElement) rfl rfl rfl hd_Q_withElement ⟨Nat.le_of_ble_eq_true rfl, Nat.le_of_ble_eq_true rfl⟩) ⟨zro_b _, zro_p va_Pnil hK hN _⟩ rfl rfl hl.1 rfl (lv_room (Nat.le_of_ble_eq_true rfl)) d_M_mergedQueue_129 ⟨Nat.zero_le _, Nat.zero_le _⟩)) (fun r_129 er_129 => ?_)
              have er_129 := er_129.symm
              subst er_129
              refine lv_lstore (lv' := [(9, .long v129), (12, .int v108), (11, .int x98_11), (8, .int v20), (7, .int x98_7), (0, .ref h0), (1, .long x), (3, .long y), (5, .long z)]) hx hb d_M_mergedQueue_132 hl (by decide) rfl (fun ls hl => ?_)
              refine lv_iload hx hb d_M_mergedQueue_134 (lv_at hl 4 rfl) ?_
              refine lv_iconst (v := 1) hx hb d_M_mergedQueue_136 (by decide) ?_
              refine lv_iload hx hb d_M_mergedQueue_137 (lv_at hl 1 rfl) ?_
              refine lv_ishl hx hb d_M_mergedQueue_139 ?_
              refine lv_iconst (v := (-1)) hx hb d_M_mergedQueue_140 (by decide) ?_
              refine lv_ixor hx hb d_M_mergedQueue_141 ?_
              refine lv_iand hx hb d_M_mergedQueue_142 ?_
              refine lv_istore (lv' := [(7, .int (x98_7 &&& ((1 <<< (v108 &&& 31)) ^^^ (-1)))), (9, .long v129), (12, .int v108), (11, .int x98_11), (8, .int v20), (0, .ref h0), (1, .long x), (3, .long y), (5, .long z)]) hx hb d_M_mergedQueue_143 hl (by decide) rfl (fun ls hl => ?_)
              refine lv_iinc (v := (x98_11 + 1)) (lv' := [(11, .int (x98_11 + 1)), (7, .int (x98_7 &&& ((1 <<< (v108 &&& 31)) ^^^ (-1)))), (9, .long v129), (12, .int v108), (8, .int v20), (0, .ref h0), (1, .long x), (3, .long y), (5, .long z)]) hx hb d_M_mergedQueue_145 hl (k := 3) rfl rfl (by decide) rfl (fun ls hl => ?_)
              refine lv_goto (tgt := 98) hx hb d_M_mergedQueue_148 (by decide) ?_
              exact ih (x98_11 + 1) v129 (x98_7 &&& ((1 <<< (v108 &&& 31)) ^^^ (-1))) _ _ hP hD hS ls (lv_sub hl [0, 2, 4, 1, 5, 6, 7, 8] rfl) hL98
            · have hL98 := zi_p c_116 hL98
              refine lv_ldc2 (v := (-1)) hx hb hown (hts _ k_352) d_M_mergedQueue_119 ?_
              obtain rfl := Option.some.inj hL98
              obtain rfl := Option.some.inj hres
              exact W.lret (v := (-1)) hx hb hr (fun t ht hW => ⟨⟨_, (), rfl, rfl, by rw [ht]; exact hP, va_K.moved hW.alike hK, hD⟩, hS.F ht⟩) hS.2.2 d_M_mergedQueue_122
      exact hloop98 zfuel 0 0 v13 _ _ hP hD hS ls (lv_sub hl [0, 1, 2, 3, 4, 5, 6, 7] rfl) hL98
    have hloop39 : ∀ (n : Nat) (x39_9 : Int32) (g39_0 : Nat → Int32) (H : Heap) (locs : List Loc), va_P D vwCl ([(qb, .inl (cB, 16, .inl g39_0)), (h0, .inr (2, [.ref qb]))]) H → va_D A ([(qb, .inl (cB, 16, .inl g39_0)), (h0, .inr (2, [.ref qb]))]) → va_S A s.heap H locs → ∀ (ls : Array Slot), lv_has ls 13 [(9, .int x39_9), (8, .int v20), (7, .int v13), (0, .ref h0), (1, .long x), (3, .long y), (5, .long z)] → L_M_mergedQueue_39 x y z v13 n x39_9 g39_0 = some w39 → W p l e (headSpec w_M_mergedQueue ({ frames := 2, cells := 0, slots := 0, locals := 47 } : Room)).room s m ([.ref h0, .long x, .long y, .long z].toArray) below meth c H locs 0 0 (MQ below (qd_M_mergedQueue D tys h0 qb cB tB bf x y z v A) ([.ref h0, .long x, .long y, .long z].toArray) s 0 0 A) (F0 m 39 ls []) := by
      intro n
      induction n with
      | zero => intro x39_9 g39_0 H locs hP hD hS ls hl hL39; cases hL39
      | succ n ih =>
        intro x39_9 g39_0 H locs hP hD hS ls hl hL39
        rw [L_M_mergedQueue_39] at hL39
        refine lv_iload hx hb d_M_mergedQueue_39 (lv_at hl 0 rfl) ?_
        refine lv_bipush (v := 16) hx hb d_M_mergedQueue_41 (by decide) ?_
        refine lv_icmp_ge (tgt := 92) hx hb d_M_mergedQueue_43 (by decide) (fun c_43 => ?_) (fun c_43 => ?_)
        · have hL39 := zi_p c_43 hL39
          obtain rfl := Option.some.inj hL39
          exact hk39 _ _ hP hD hS ls (lv_sub hl [0, 1, 2, 3, 4, 5, 6] rfl)
        · have hL39 := zi_n c_43 hL39
          refine lv_iload hx hb d_M_mergedQueue_46 (lv_at hl 2 rfl) ?_
          refine lv_i2l (v := v13.toInt64) hx hb d_M_mergedQueue_48 rfl ?_
          refine lv_iload hx hb d_M_mergedQueue_49 (lv_at hl 0 rfl) ?_
          obtain ⟨v51, hc51, hL39⟩ := zo_b hL39
          refine vp_callSi (va_Run.run (va_runSN (As := [.long v13.toInt64, .int x39_9]) (rest := []) ⟨hx, hb, hml, hown, hts⟩ (c_V_isIn l D tys v13.toInt64 x39_9 v51 hc51) ⟨va_cnB 2 hts g_V_isIn rfl rfl rfl hN.2.2.2.2.2.1 (hts _ k_29) hd_V_isIn ⟨Nat.le_of_ble_eq_true rfl, Nat.le_of_ble_eq_true rfl⟩, hts _ k_196, trivial⟩ ⟨zro_b _, zro_p va_Pnil hK hN _⟩ rfl rfl hl.1 rfl (lv_room (Nat.le_of_ble_eq_true rfl)) d_M_mergedQueue_51 ⟨Nat.zero_le _, Nat.zero_le _⟩)) (fun r_51 er_51 => ?_)
          have er_51 := er_51.symm
          subst er_51
          refine lv_if_eq (tgt := 86) hx hb d_M_mergedQueue_54 (by decide) (fun c_54 => ?_) (fun c_54 => ?_)
          · have hL39 := zi_p c_54 hL39
            refine lv_iinc (v := (x39_9 + 1)) (lv' := [(9, .int (x39_9 + 1)), (8, .int v20), (7, .int v13), (0, .ref h0), (1, .long x), (3, .long y), (5, .long z)]) hx hb d_M_mergedQueue_86 hl (k := 0) rfl rfl (by decide) rfl (fun ls hl => ?_)
            refine lv_goto (tgt := 39) hx hb d_M_mergedQueue_89 (by decide) ?_
            exact ih (x39_9 + 1) g39_0 _ _ hP hD hS ls (lv_sub hl [0, 1, 2, 3, 4, 5, 6] rfl) hL39
          · have hL39 := zi_n c_54 hL39
            refine lv_aload_n hx hb d_M_mergedQueue_57 rfl (lv_at hl 3 rfl) ?_
            refine va_get (D := D) (ci := 2) (v := .ref qb) (C := R_M) (T := T_M) (N := 1) hx hb hts in_M hown hK hP (1) rfl rfl 0 (by decide) (hts _ k_131) (fun _ h9 => h9) rfl d_M_mergedQueue_58 ?_
            refine lv_iload hx hb d_M_mergedQueue_61 (lv_at hl 0 rfl) ?_
            refine lv_lload_n hx hb d_M_mergedQueue_63 rfl (lv_at hl 4 rfl) ?_
            refine lv_iload hx hb d_M_mergedQueue_64 (lv_at hl 0 rfl) ?_
            obtain ⟨v66, hc66, hL39⟩ := zo_b hL39
            refine vp_callSi (va_Run.run (va_runS (As := [.long x, .int x39_9]) (rest := [.int x39_9, .ref qb]) ⟨hx, hb, hml, hown, hts⟩ (c_Q_standingBefore l D tys x x39_9 v66 hc66) (va_cwS 2 hts (zg_S k_354 k_355 k_34 g_Q_standingBefore) rfl rfl rfl hd_Q_standingBefore ⟨Nat.le_of_ble_eq_true rfl, Nat.le_of_ble_eq_true rfl⟩) ⟨zro_b _, zro_p va_Pnil hK hN _⟩ rfl rfl hl.1 rfl (lv_room (Nat.le_of_ble_eq_true rfl)) d_M_mergedQueue_66 ⟨Nat.zero_le _, Nat.zero_le _⟩)) (fun r_66 er_66 => ?_)
            have er_66 := er_66.symm
            subst er_66
            refine lv_lload_n hx hb d_M_mergedQueue_69 rfl (lv_at hl 5 rfl) ?_
            refine lv_iload hx hb d_M_mergedQueue_70 (lv_at hl 0 rfl) ?_
            obtain ⟨v72, hc72, hL39⟩ := zo_b hL39
            refine vp_callSi (va_Run.run (va_runS (As := [.long y, .int x39_9]) (rest := [.int v66, .int x39_9, .ref qb]) ⟨hx, hb, hml, hown, hts⟩ (c_Q_standingBefore l D tys y x39_9 v72 hc72) (va_cwS 2 hts (zg_S k_354 k_355 k_34 g_Q_standingBefore) rfl rfl rfl hd_Q_standingBefore ⟨Nat.le_of_ble_eq_true rfl, Nat.le_of_ble_eq_true rfl⟩) ⟨zro_b _, zro_p va_Pnil hK hN _⟩ rfl rfl hl.1 rfl (lv_room (Nat.le_of_ble_eq_true rfl)) d_M_mergedQueue_72 ⟨Nat.zero_le _, Nat.zero_le _⟩)) (fun r_72 er_72 => ?_)
            have er_72 := er_72.symm
            subst er_72
            refine lv_lload hx hb d_M_mergedQueue_75 (lv_at hl 6 rfl) ?_
            refine lv_iload hx hb d_M_mergedQueue_77 (lv_at hl 0 rfl) ?_
            obtain ⟨v79, hc79, hL39⟩ := zo_b hL39
            refine vp_callSi (va_Run.run (va_runS (As := [.long z, .int x39_9]) (rest := [.int v72, .int v66, .int x39_9, .ref qb]) ⟨hx, hb, hml, hown, hts⟩ (c_Q_standingBefore l D tys z x39_9 v79 hc79) (va_cwS 2 hts (zg_S k_354 k_355 k_34 g_Q_standingBefore) rfl rfl rfl hd_Q_standingBefore ⟨Nat.le_of_ble_eq_true rfl, Nat.le_of_ble_eq_true rfl⟩) ⟨zro_b _, zro_p va_Pnil hK hN _⟩ rfl rfl hl.1 rfl (lv_room (Nat.le_of_ble_eq_true rfl)) d_M_mergedQueue_79 ⟨Nat.zero_le _, Nat.zero_le _⟩)) (fun r_79 er_79 => ?_)
            have er_79 := er_79.symm
            subst er_79
            obtain ⟨v82, hc82, hL39⟩ := zo_b hL39
            refine vp_callSi (va_Run.run (va_runS (As := [.int v66, .int v72, .int v79]) (rest := [.int x39_9, .ref qb]) ⟨hx, hb, hml, hown, hts⟩ (c_M_mergedSet l D tys v66 v72 v79 v82 hc82) (va_cwS 3 hts (zg_S k_338 k_339 k_31 g_M_mergedSet) rfl rfl rfl hd_M_mergedSet ⟨Nat.le_of_ble_eq_true rfl, Nat.le_of_ble_eq_true rfl⟩) ⟨zro_b _, zro_p va_Pnil hK hN _⟩ rfl rfl hl.1 rfl (lv_room (Nat.le_of_ble_eq_true rfl)) d_M_mergedQueue_82 ⟨Nat.zero_le _, Nat.zero_le _⟩)) (fun r_82 er_82 => ?_)
            have er_82 := er_82.symm
            subst er_82
            by_cases ck_85 : zin x39_9 16
            · have hL39 := zi_p ck_85 hL39
              refine va_iast hx hb hK hP hD hS 0 tB rfl htB ck_85 d_M_mergedQueue_85 (fun H locs hP hD hS => ?_)
              have hP : va_P D vwCl ([(qb, .inl (cB, 16, .inl (upd g39_0 x39_9.toNatClampNeg v82))), (h0, .inr (2, [.ref qb]))]) H := hP
              have hD : va_D A ([(qb, .inl (cB, 16, .inl (upd g39_0 x39_9.toNatClampNeg v82))), (h0, .inr (2, [.ref qb]))]) := hD
              refine lv_iinc (v := (x39_9 + 1)) (lv' := [(9, .int (x39_9 + 1)), (8, .int v20), (7, .int v13), (0, .ref h0), (1, .long x), (3, .long y), (5, .long z)]) hx hb d_M_mergedQueue_86 hl (k := 0) rfl rfl (by decide) rfl (fun ls hl => ?_)
              refine lv_goto (tgt := 39) hx hb d_M_mergedQueue_89 (by decide) ?_
              exact ih (x39_9 + 1) (upd g39_0 x39_9.toNatClampNeg v82) _ _ hP hD hS ls (lv_sub hl [0, 1, 2, 3, 4, 5, 6] rfl) hL39
            · exact absurd (zi_n ck_85 hL39) (by simp)
    exact hloop39 zfuel 0 bf _ _ hP hD hS ls (lv_sub hl [0, 1, 2, 3, 4, 5, 6] rfl) hL39
  · have hres := zi_n c_29 hres
    refine lv_ldc2 (v := (-1)) hx hb hown (hts _ k_352) d_M_mergedQueue_32 ?_
    obtain rfl := Option.some.inj hres
    exact W.lret (v := (-1)) hx hb hr (fun t ht hW => ⟨⟨_, (), rfl, rfl, by rw [ht]; exact hP, va_K.moved hW.alike hK, hD⟩, hS.F ht⟩) hS.2.2 d_M_mergedQueue_35
abbrev qd_M_mergeInto (D : va_G) (tys : List (ClassId × FieldType)) (h0 : Nat) (h1 : Nat) (h2 : Nat) (h3 : Nat) (qb : Nat) (cB : ClassId) (tB : Nat) (x : TreeV) (bf : Nat → Int32) (b : TreeV) (y : TreeV) (v : Int32 × TreeV × (Nat → Int32)) (A : Nat → Prop) : Array Value → State → Outcome → State → Prop := va_Qi (fun (r : Int32) (_ : Unit) => r = v.1) (fun _ t => zwd D tys (A) ([(h1, zcT v.2.1), (qb, .inl (cB, 16, .inl v.2.2))] ++ [(h0, .inr (2, [.ref qb])), (h2, zcT b), (h3, zcT y)]) t) (A)

def f_M_mergeInto (x : TreeV) (bf : Nat → Int32) (b : TreeV) (y : TreeV) : Option (Int32 × TreeV × (Nat → Int32)) :=
  Option.bind (f_M_mergedLong b.1 x.1 y.1) (fun v13 =>
    Option.bind (f_M_mergeLatest (v13, x.2.1, x.2.2.1, x.2.2.2.1, x.2.2.2.2.1, x.2.2.2.2.2.1, x.2.2.2.2.2.2.1, x.2.2.2.2.2.2.2.1, x.2.2.2.2.2.2.2.2.1, x.2.2.2.2.2.2.2.2.2) y) (fun v21 =>
      Option.bind (f_M_clash b.2.2.2.1 v21.2.2.2.1 y.2.2.2.1) (fun v36 =>
        if v36 = 0 then
          Option.bind (f_M_mergedInt b.2.2.2.1 v21.2.2.2.1 y.2.2.2.1) (fun v58 =>
            Option.bind (f_M_mergedSet b.2.2.2.2.1 v21.2.2.2.2.1 y.2.2.2.2.1) (fun v77 =>
              Option.bind (f_M_mergedQueue bf b.2.2.2.2.2.1 v21.2.2.2.2.2.1 y.2.2.2.2.2.1) (fun v97 =>
                if (lg_cmp v97.1 (-1)) = 0 then
                  some ((-14), (v21.1, v21.2.1, v21.2.2.1, v58, v77, v97.1, v21.2.2.2.2.2.2.1, v21.2.2.2.2.2.2.2.1, v21.2.2.2.2.2.2.2.2.1, v21.2.2.2.2.2.2.2.2.2), v97.2)
                else
                  Option.bind (f_M_mergeOption (v21.1, v21.2.1, v21.2.2.1, v58, v77, v97.1, v21.2.2.2.2.2.2.1, v21.2.2.2.2.2.2.2.1, v21.2.2.2.2.2.2.2.2.1, v21.2.2.2.2.2.2.2.2.2) b y) (fun v120 =>
                    if v120.1 = 0 then
                      some ((-15), v120.2, v97.2)
                    else
                      Option.bind (f_M_clash b.2.2.2.2.2.2.2.2.2 v120.2.2.2.2.2.2.2.2.2.2 y.2.2.2.2.2.2.2.2.2) (fun v141 =>
                        if v141 = 0 then
                          Option.bind (f_M_mergedLong b.2.2.2.2.2.2.2.2.1 v120.2.2.2.2.2.2.2.2.2.1 y.2.2.2.2.2.2.2.2.1) (fun v163 =>
                            Option.bind (f_M_mergedInt b.2.2.2.2.2.2.2.2.2 v120.2.2.2.2.2.2.2.2.2.2 y.2.2.2.2.2.2.2.2.2) (fun v182 =>
                              some (0, (v120.2.1, v120.2.2.1, v120.2.2.2.1, v120.2.2.2.2.1, v120.2.2.2.2.2.1, v120.2.2.2.2.2.2.1, v120.2.2.2.2.2.2.2.1, v120.2.2.2.2.2.2.2.2.1, v163, v182), v97.2)))
                        else
                          some ((-16), v120.2, v97.2))))))
        else
          some ((-12), v21, bf))))
set_option maxHeartbeats 4000000 in
set_option maxRecDepth 100000 in
theorem c_M_mergeInto (l : Launch) (D : va_G) (tys : List (ClassId × FieldType)) (sz : Nat) (h0 : Nat) (h1 : Nat) (h2 : Nat) (h3 : Nat) (qb : Nat) (cB : ClassId) (tB : Nat) (htB : tys[tB]? = some (cB, FieldType.int)) (x : TreeV) (bf : Nat → Int32) (b : TreeV) (y : TreeV) (v : Int32 × TreeV × (Nat → Int32)) (hres : f_M_mergeInto x bf b y = some v) : Met l y_M_mergeInto w_M_mergeInto ({ frames := 3, cells := 0, slots := 0, locals := 79 } : Room) (va_Pc ([.ref h0, .ref h1, .ref h2, .ref h3]) (zrw D tys sz ([(h1, zcT x), (qb, .inl (cB, 16, .inl bf))] ++ [(h0, .inr (2, [.ref qb])), (h2, zcT b), (h3, zcT y)]))) (qd_M_mergeInto D tys h0 h1 h2 h3 qb cB tB x bf b y v (va_A ([(h1, zcT x), (qb, .inl (cB, 16, .inl bf))] ++ [(h0, .inr (2, [.ref qb])), (h2, zcT b), (h3, zcT y)]) sz)) 0 0 (va_A ([(h1, zcT x), (qb, .inl (cB, 16, .inl bf))] ++ [(h0, .inr (2, [.ref qb])), (h2, zcT b), (h3, zcT y)]) sz) := by
  refine Met.ofW (cc := b_M_mergeInto) (maxL := 4) (ret := (some .int)) (by decide) rfl ?_
  intro p e s m args below meth c s₁ B hml hv
  obtain ⟨rfl, hsz, hP, hK, hD0, hN⟩ := hv
  have hx := B.exec
  have hb := B.bytes
  have hr := B.returns
  have hts : ∀ w ∈ zt, w.before ([.ref h0, .ref h1, .ref h2, .ref h3].toArray) s = true := fun w h => atoms_spec (ws := w_M_mergeInto) B.pre w (List.mem_cons_of_mem _ h)
  have hown : s.vm.findClass R_M = some m.cls := findClass_of_methodNamed B.named
  have hlocks := B.notSynchronized
  subst hsz
  have hD := hD0.self (sz := s.heap.size)
  generalize hAe : va_A ([(h1, zcT x), (qb, .inl (cB, 16, .inl bf))] ++ [(h0, .inr (2, [.ref qb])), (h2, zcT b), (h3, zcT y)]) s.heap.size = A at hD ⊢
  have hA : ∀ q : Nat, s.heap.size ≤ q → A q := fun q h => by rw [← hAe]; exact Or.inr h
  have hS : va_S A s.heap s.heap [] := va_S.rf
  have hP : va_P D vwCl ([(h1, zcT x), (qb, .inl (cB, 16, .inl bf)), (h0, .inr (2, [.ref qb])), (h2, zcT b), (h3, zcT y)]) s.heap := hP
  have hD : va_D A ([(h1, zcT x), (qb, .inl (cB, 16, .inl bf)), (h0, .inr (2, [.ref qb])), (h2, zcT b), (h3, zcT y)]) := hD
  have hl := lv_entry ([.ref h0, .ref h1, .ref h2, .ref h3]) (n := 4) (Nat.le_of_ble_eq_true rfl)
  rw [lg_entry_eq]
  generalize (lg_sl ([.ref h0, .ref h1, .ref h2, .ref h3]) ++ List.replicate (4 - (lg_sl ([.ref h0, .ref h1, .ref h2, .ref h3])).length) Slot.unset).toArray = ls at hl ⊢
  have hl : lv_has ls 4 [(0, .ref h0), (1, .ref h1), (2, .ref h2), (3, .ref h3)] := hl
  unfold f_M_mergeInto at hres
  refine lv_aload_n hx hb d_M_mergeInto_0 rfl (lv_at hl 1 rfl) ?_
  refine lv_aload_n hx hb d_M_mergeInto_1 rfl (lv_at hl 2 rfl) ?_
  refine va_get (D := D) (ci := 0) (v := .long b.1) (C := R_T) (T := T_T) (N := 10) hx hb hts in_T hown hK hP (3) rfl rfl 0 (by decide) (hts _ k_55) (fun _ h9 => h9) rfl d_M_mergeInto_2 ?_
  refine lv_aload_n hx hb d_M_mergeInto_5 rfl (lv_at hl 1 rfl) ?_
  refine va_get (D := D) (ci := 0) (v := .long x.1) (C := R_T) (T := T_T) (N := 10) hx hb hts in_T hown hK hP (0) rfl rfl 0 (by decide) (hts _ k_55) (fun _ h9 => h9) rfl d_M_mergeInto_6 ?_
  refine lv_aload_n hx hb d_M_mergeInto_9 rfl (lv_at hl 3 rfl) ?_
  refine va_get (D := D) (ci := 0) (v := .long y.1) (C := R_T) (T := T_T) (N := 10) hx hb hts in_T hown hK hP (4) rfl rfl 0 (by decide) (hts _ k_55) (fun _ h9 => h9) rfl d_M_mergeInto_10 ?_
  obtain ⟨v13, hc13, hres⟩ := zo_b hres
  refine vp_callSl (va_Run.run (va_runS (As := [.long b.1, .long x.1, .long y.1]) (rest := [.ref h1]) ⟨hx, hb, hml, hown, hts⟩ (c_M_mergedLong l D tys b.1 x.1 y.1 v13 hc13) (va_cwS 3 hts (zg_S k_326 k_327 k_31 g_M_mergedLong) rfl rfl rfl hd_M_mergedLong ⟨Nat.le_of_ble_eq_true rfl, Nat.le_of_ble_eq_true rfl⟩) ⟨zro_b _, zro_p va_Pnil hK hN _⟩ rfl rfl hl.1 rfl (lv_room (Nat.le_of_ble_eq_true rfl)) d_M_mergeInto_13 ⟨Nat.zero_le _, Nat.zero_le _⟩)) (fun r_13 er_13 => ?_)
  have er_13 := er_13.symm
  subst er_13
  refine va_put (D := D) (ci := 0) (v := .long v13) (ty := .long) (C := R_T) (T := T_T) (N := 10) hx hb hts in_T ty_T ok_T nm_T hown hK hP hD hS 0 rfl rfl 0 (by decide) (hts _ k_55) (fun _ h9 => h9) rfl (by decide +kernel) rfl rfl (Nat.le_of_ble_eq_true rfl) d_M_mergeInto_16 (fun H locs hP hD hS => ?_)
  have hP : va_P D vwCl ([(h1, .inr (0, [.long v13, .int x.2.1, .int x.2.2.1, .int x.2.2.2.1, .int x.2.2.2.2.1, .long x.2.2.2.2.2.1, .int x.2.2.2.2.2.2.1, .long x.2.2.2.2.2.2.2.1, .long x.2.2.2.2.2.2.2.2.1, .int x.2.2.2.2.2.2.2.2.2])), (qb, .inl (cB, 16, .inl bf)), (h0, .inr (2, [.ref qb])), (h2, zcT b), (h3, zcT y)]) H := hP
  have hD : va_D A ([(h1, .inr (0, [.long v13, .int x.2.1, .int x.2.2.1, .int x.2.2.2.1, .int x.2.2.2.2.1, .long x.2.2.2.2.2.1, .int x.2.2.2.2.2.2.1, .long x.2.2.2.2.2.2.2.1, .long x.2.2.2.2.2.2.2.2.1, .int x.2.2.2.2.2.2.2.2.2])), (qb, .inl (cB, 16, .inl bf)), (h0, .inr (2, [.ref qb])), (h2, zcT b), (h3, zcT y)]) := hD
  refine lv_aload_n hx hb d_M_mergeInto_19 rfl (lv_at hl 1 rfl) ?_
  refine lv_aload_n hx hb d_M_mergeInto_20 rfl (lv_at hl 3 rfl) ?_
  obtain ⟨v21, hc21, hres⟩ := zo_b hres
  have hWc : ([0] : List Nat).map (fun i => ([(h1, .inr (0, [.long v13, .int x.2.1, .int x.2.2.1, .int x.2.2.2.1, .int x.2.2.2.2.1, .long x.2.2.2.2.2.1, .int x.2.2.2.2.2.2.1, .long x.2.2.2.2.2.2.2.1, .long x.2.2.2.2.2.2.2.2.1, .int x.2.2.2.2.2.2.2.2.2])), (qb, .inl (cB, 16, .inl bf)), (h0, .inr (2, [.ref qb])), (h2, zcT b), (h3, zcT y)])[i]?) = ([(h1, .inr (0, [.long v13, .int x.2.1, .int x.2.2.1, .int x.2.2.2.1, .int x.2.2.2.2.1, .long x.2.2.2.2.2.1, .int x.2.2.2.2.2.2.1, .long x.2.2.2.2.2.2.2.1, .long x.2.2.2.2.2.2.2.2.1, .int x.2.2.2.2.2.2.2.2.2]))] : va_W).map some := (zcons rfl znil)
  have hRc : ([4] : List Nat).map (fun i => ([(h1, .inr (0, [.long v13, .int x.2.1, .int x.2.2.1, .int x.2.2.2.1, .int x.2.2.2.2.1, .long x.2.2.2.2.2.1, .int x.2.2.2.2.2.2.1, .long x.2.2.2.2.2.2.2.1, .long x.2.2.2.2.2.2.2.2.1, .int x.2.2.2.2.2.2.2.2.2])), (qb, .inl (cB, 16, .inl bf)), (h0, .inr (2, [.ref qb])), (h2, zcT b), (h3, zcT y)])[i]?) = ([(h3, zcT y)] : va_W).map some := (zcons rfl znil)
  refine zd_v (wcw := [(h1, .inr (0, [.long v13, .int x.2.1, .int x.2.2.1, .int x.2.2.2.1, .int x.2.2.2.2.1, .long x.2.2.2.2.2.1, .int x.2.2.2.2.2.2.1, .long x.2.2.2.2.2.2.2.1, .long x.2.2.2.2.2.2.2.2.1, .int x.2.2.2.2.2.2.2.2.2]))]) (wro := [(h3, zcT y)]) (w1w := [(h1, zcT v21)]) (va_runS (As := [.ref h1, .ref h3]) (rest := []) ⟨hx, hb, hml, hown, hts⟩ (c_M_mergeLatest l D tys _ h1 h3 (v13, x.2.1, x.2.2.1, x.2.2.2.1, x.2.2.2.2.1, x.2.2.2.2.2.1, x.2.2.2.2.2.2.1, x.2.2.2.2.2.2.2.1, x.2.2.2.2.2.2.2.2.1, x.2.2.2.2.2.2.2.2.2) y v21 hc21) (va_cwS 2 hts (zg_S k_329 k_330 k_31 g_M_mergeLatest) rfl rfl rfl hd_M_mergeLatest ⟨Nat.le_of_ble_eq_true rfl, Nat.le_of_ble_eq_true rfl⟩) ⟨zrw_b _, zrw_p hP hD hK hN [0] [4] hWc hRc (by decide) _⟩ rfl rfl hl.1 rfl (lv_room (Nat.le_of_ble_eq_true rfl)) d_M_mergeInto_21 ⟨Nat.zero_le _, Nat.zero_le _⟩) hP hD hS hA [0] [4] hWc hRc rfl (fun H locs hP hD hS => ?_)
  have hP : va_P D vwCl ([(h1, zcT v21), (qb, .inl (cB, 16, .inl bf)), (h0, .inr (2, [.ref qb])), (h2, zcT b), (h3, zcT y)]) H := hP
  have hD : va_D A ([(h1, zcT v21), (qb, .inl (cB, 16, .inl bf)), (h0, .inr (2, [.ref qb])), (h2, zcT b), (h3, zcT y)]) := hD
  refine lv_aload_n hx hb d_M_mergeInto_24 rfl (lv_at hl 2 rfl) ?_
  refine va_get (D := D) (ci := 0) (v := .int b.2.2.2.1) (C := R_T) (T := T_T) (N := 10) hx hb hts in_T hown hK hP (3) rfl rfl 3 (by decide) (hts _ k_69) (fun _ h9 => h9) rfl d_M_mergeInto_25 ?_
  refine lv_aload_n hx hb d_M_mergeInto_28 rfl (lv_at hl 1 rfl) ?_
  refine va_get (D := D) (ci := 0) (v := .int v21.2.2.2.1) (C := R_T) (T := T_T) (N := 10) hx hb hts in_T hown hK hP (0) rfl rfl 3 (by decide) (hts _ k_69) (fun _ h9 => h9) rfl d_M_mergeInto_29 ?_
  refine lv_aload_n hx hb d_M_mergeInto_32 rfl (lv_at hl 3 rfl) ?_
  refine va_get (D := D) (ci := 0) (v := .int y.2.2.2.1) (C := R_T) (T := T_T) (N := 10) hx hb hts in_T hown hK hP (4) rfl rfl 3 (by decide) (hts _ k_69) (fun _ h9 => h9) rfl d_M_mergeInto_33 ?_
  obtain ⟨v36, hc36, hres⟩ := zo_b hres
  refine vp_callSi (va_Run.run (va_runS (As := [.int b.2.2.2.1, .int v21.2.2.2.1, .int y.2.2.2.1]) (rest := []) ⟨hx, hb, hml, hown, hts⟩ (c_M_clash l D tys b.2.2.2.1 v21.2.2.2.1 y.2.2.2.1 v36 hc36) (va_cwS 3 hts (zg_S k_332 k_333 k_31 g_M_clash) rfl rfl rfl hd_M_clash ⟨Nat.le_of_ble_eq_true rfl, Nat.le_of_ble_eq_true rfl⟩) ⟨zro_b _, zro_p va_Pnil hK hN _⟩ rfl rfl hl.1 rfl (lv_room (Nat.le_of_ble_eq_true rfl)) d_M_mergeInto_36 ⟨Nat.zero_le _, Nat.zero_le _⟩)) (fun r_36 er_36 => ?_)
  have er_36 := er_36.symm
  subst er_36
  refine lv_if_eq (tgt := 45) hx hb d_M_mergeInto_39 (by decide) (fun c_39 => ?_) (fun c_39 => ?_)
  · have hres := zi_p c_39 hres
    refine lv_aload_n hx hb d_M_mergeInto_45 rfl (lv_at hl 1 rfl) ?_
    refine lv_aload_n hx hb d_M_mergeInto_46 rfl (lv_at hl 2 rfl) ?_
    refine va_get (D := D) (ci := 0) (v := .int b.2.2.2.1) (C := R_T) (T := T_T) (N := 10) hx hb hts in_T hown hK hP (3) rfl rfl 3 (by decide) (hts _ k_69) (fun _ h9 => h9) rfl d_M_mergeInto_47 ?_
    refine lv_aload_n hx hb d_M_mergeInto_50 rfl (lv_at hl 1 rfl) ?_
    refine va_get (D := D) (ci := 0) (v := .int v21.2.2.2.1) (C := R_T) (T := T_T) (N := 10) hx hb hts in_T hown hK hP (0) rfl rfl 3 (by decide) (hts _ k_69) (fun _ h9 => h9) rfl d_M_mergeInto_51 ?_
    refine lv_aload_n hx hb d_M_mergeInto_54 rfl (lv_at hl 3 rfl) ?_
    refine va_get (D := D) (ci := 0) (v := .int y.2.2.2.1) (C := R_T) (T := T_T) (N := 10) hx hb hts in_T hown hK hP (4) rfl rfl 3 (by decide) (hts _ k_69) (fun _ h9 => h9) rfl d_M_mergeInto_55 ?_
    obtain ⟨v58, hc58, hres⟩ := zo_b hres
    refine vp_callSi (va_Run.run (va_runS (As := [.int b.2.2.2.1, .int v21.2.2.2.1, .int y.2.2.2.1]) (rest := [.ref h1]) ⟨hx, hb, hml, hown, hts⟩ (c_M_mergedInt l D tys b.2.2.2.1 v21.2.2.2.1 y.2.2.2.1 v58 hc58) (va_cwS 3 hts (zg_S k_335 k_336 k_31 g_M_mergedInt) rfl rfl rfl hd_M_mergedInt ⟨Nat.le_of_ble_eq_true rfl, Nat.le_of_ble_eq_true rfl⟩) ⟨zro_b _, zro_p va_Pnil hK hN _⟩ rfl rfl hl.1 rfl (lv_room (Nat.le_of_ble_eq_true rfl)) d_M_mergeInto_58 ⟨Nat.zero_le _, Nat.zero_le _⟩)) (fun r_58 er_58 => ?_)
    have er_58 := er_58.symm
    subst er_58
    refine va_put (D := D) (ci := 0) (v := .int v58) (ty := .int) (C := R_T) (T := T_T) (N := 10) hx hb hts in_T ty_T ok_T nm_T hown hK hP hD hS 0 rfl rfl 3 (by decide) (hts _ k_69) (fun _ h9 => h9) rfl (by decide +kernel) rfl rfl (Nat.le_of_ble_eq_true rfl) d_M_mergeInto_61 (fun H locs hP hD hS => ?_)
    have hP : va_P D vwCl ([(h1, .inr (0, [.long v21.1, .int v21.2.1, .int v21.2.2.1, .int v58, .int v21.2.2.2.2.1, .long v21.2.2.2.2.2.1, .int v21.2.2.2.2.2.2.1, .long v21.2.2.2.2.2.2.2.1, .long v21.2.2.2.2.2.2.2.2.1, .int v21.2.2.2.2.2.2.2.2.2])), (qb, .inl (cB, 16, .inl bf)), (h0, .inr (2, [.ref qb])), (h2, zcT b), (h3, zcT y)]) H := hP
    have hD : va_D A ([(h1, .inr (0, [.long v21.1, .int v21.2.1, .int v21.2.2.1, .int v58, .int v21.2.2.2.2.1, .long v21.2.2.2.2.2.1, .int v21.2.2.2.2.2.2.1, .long v21.2.2.2.2.2.2.2.1, .long v21.2.2.2.2.2.2.2.2.1, .int v21.2.2.2.2.2.2.2.2.2])), (qb, .inl (cB, 16, .inl bf)), (h0, .inr (2, [.ref qb])), (h2, zcT b), (h3, zcT y)]) := hD
    refine lv_aload_n hx hb d_M_mergeInto_64 rfl (lv_at hl 1 rfl) ?_
    refine lv_aload_n hx hb d_M_mergeInto_65 rfl (lv_at hl 2 rfl) ?_
    refine va_get (D := D) (ci := 0) (v := .int b.2.2.2.2.1) (C := R_T) (T := T_T) (N := 10) hx hb hts in_T hown hK hP (3) rfl rfl 4 (by decide) (hts _ k_75) (fun _ h9 => h9) rfl d_M_mergeInto_66 ?_
    refine lv_aload_n hx hb d_M_mergeInto_69 rfl (lv_at hl 1 rfl) ?_
    refine va_get (D := D) (ci := 0) (v := .int v21.2.2.2.2.1) (C := R_T) (T := T_T) (N := 10) hx hb hts in_T hown hK hP (0) rfl rfl 4 (by decide) (hts _ k_75) (fun _ h9 => h9) rfl d_M_mergeInto_70 ?_
    refine lv_aload_n hx hb d_M_mergeInto_73 rfl (lv_at hl 3 rfl) ?_
    refine va_get (D := D) (ci := 0) (v := .int y.2.2.2.2.1) (C := R_T) (T := T_T) (N := 10) hx hb hts in_T hown hK hP (4) rfl rfl 4 (by decide) (hts _ k_75) (fun _ h9 => h9) rfl d_M_mergeInto_74 ?_
    obtain ⟨v77, hc77, hres⟩ := zo_b hres
    refine vp_callSi (va_Run.run (va_runS (As := [.int b.2.2.2.2.1, .int v21.2.2.2.2.1, .int y.2.2.2.2.1]) (rest := [.ref h1]) ⟨hx, hb, hml, hown, hts⟩ (c_M_mergedSet l D tys b.2.2.2.2.1 v21.2.2.2.2.1 y.2.2.2.2.1 v77 hc77) (va_cwS 3 hts (zg_S k_338 k_339 k_31 g_M_mergedSet) rfl rfl rfl hd_M_mergedSet ⟨Nat.le_of_ble_eq_true rfl, Nat.le_of_ble_eq_true rfl⟩) ⟨zro_b _, zro_p va_Pnil hK hN _⟩ rfl rfl hl.1 rfl (lv_room (Nat.le_of_ble_eq_true rfl)) d_M_mergeInto_77 ⟨Nat.zero_le _, Nat.zero_le _⟩)) (fun r_77 er_77 => ?_)
    have er_77 := er_77.symm
    subst er_77
    refine va_put (D := D) (ci := 0) (v := .int v77) (ty := .int) (C := R_T) (T := T_T) (N := 10) hx hb hts in_T ty_T ok_T nm_T hown hK hP hD hS 0 rfl rfl 4 (by decide) (hts _ k_75) (fun _ h9 => h9) rfl (by decide +kernel) rfl rfl (Nat.le_of_ble_eq_true rfl) d_M_mergeInto_80 (fun H locs hP hD hS => ?_)
    have hP : va_P D vwCl ([(h1, .inr (0, [.long v21.1, .int v21.2.1, .int v21.2.2.1, .int v58, .int v77, .long v21.2.2.2.2.2.1, .int v21.2.2.2.2.2.2.1, .long v21.2.2.2.2.2.2.2.1, .long v21.2.2.2.2.2.2.2.2.1, .int v21.2.2.2.2.2.2.2.2.2])), (qb, .inl (cB, 16, .inl bf)), (h0, .inr (2, [.ref qb])), (h2, zcT b), (h3, zcT y)]) H := hP
    have hD : va_D A ([(h1, .inr (0, [.long v21.1, .int v21.2.1, .int v21.2.2.1, .int v58, .int v77, .long v21.2.2.2.2.2.1, .int v21.2.2.2.2.2.2.1, .long v21.2.2.2.2.2.2.2.1, .long v21.2.2.2.2.2.2.2.2.1, .int v21.2.2.2.2.2.2.2.2.2])), (qb, .inl (cB, 16, .inl bf)), (h0, .inr (2, [.ref qb])), (h2, zcT b), (h3, zcT y)]) := hD
    refine lv_aload_n hx hb d_M_mergeInto_83 rfl (lv_at hl 1 rfl) ?_
    refine lv_aload_n hx hb d_M_mergeInto_84 rfl (lv_at hl 0 rfl) ?_
    refine lv_aload_n hx hb d_M_mergeInto_85 rfl (lv_at hl 2 rfl) ?_
    refine va_get (D := D) (ci := 0) (v := .long b.2.2.2.2.2.1) (C := R_T) (T := T_T) (N := 10) hx hb hts in_T hown hK hP (3) rfl rfl 5 (by decide) (hts _ k_78) (fun _ h9 => h9) rfl d_M_mergeInto_86 ?_
    refine lv_aload_n hx hb d_M_mergeInto_89 rfl (lv_at hl 1 rfl) ?_
    refine va_get (D := D) (ci := 0) (v := .long v21.2.2.2.2.2.1) (C := R_T) (T := T_T) (N := 10) hx hb hts in_T hown hK hP (0) rfl rfl 5 (by decide) (hts _ k_78) (fun _ h9 => h9) rfl d_M_mergeInto_90 ?_
    refine lv_aload_n hx hb d_M_mergeInto_93 rfl (lv_at hl 3 rfl) ?_
    refine va_get (D := D) (ci := 0) (v := .long y.2.2.2.2.2.1) (C := R_T) (T := T_T) (N := 10) hx hb hts in_T hown hK hP (4) rfl rfl 5 (by decide) (hts _ k_78) (fun _ h9 => h9) rfl d_M_mergeInto_94 ?_
    obtain ⟨v97, hc97, hres⟩ := zo_b hres
    have hWc : ([1] : List Nat).map (fun i => ([(h1, .inr (0, [.long v21.1, .int v21.2.1, .int v21.2.2.1, .int v58, .int v77, .long v21.2.2.2.2.2.1, .int v21.2.2.2.2.2.2.1, .long v21.2.2.2.2.2.2.2.1, .long v21.2.2.2.2.2.2.2.2.1, .int v21.2.2.2.2.2.2.2.2.2])), (qb, .inl (cB, 16, .inl bf)), (h0, .inr (2, [.ref qb])), (h2, zcT b), (h3, zcT y)])[i]?) = ([(qb, .inl (cB, 16, .inl bf))] : va_W).map some := (zcons rfl znil)
    have hRc : ([2] : List Nat).map (fun i => ([(h1, .inr (0, [.long v21.1, .int v21.2.1, .int v21.2.2.1, .int v58, .int v77, .long v21.2.2.2.2.2.1, .int v21.2.2.2.2.2.2.1, .long v21.2.2.2.2.2.2.2.1, .long v21.2.2.2.2.2.2.2.2.1, .int v21.2.2.2.2.2.2.2.2.2])), (qb, .inl (cB, 16, .inl bf)), (h0, .inr (2, [.ref qb])), (h2, zcT b), (h3, zcT y)])[i]?) = ([(h0, .inr (2, [.ref qb]))] : va_W).map some := (zcons rfl znil)
    refine zd_l (wcw := [(qb, .inl (cB, 16, .inl bf))]) (wro := [(h0, .inr (2, [.ref qb]))]) (w1w := [(qb, .inl (cB, 16, .inl v97.2))]) (v := v97.1) (va_runV (As := [.long b.2.2.2.2.2.1, .long v21.2.2.2.2.2.1, .long y.2.2.2.2.2.1]) (rest := [.ref h1]) ⟨hx, hb, hml, hown, hts⟩ (c_M_mergedQueue l D tys _ h0 qb cB tB htB bf b.2.2.2.2.2.1 v21.2.2.2.2.2.1 y.2.2.2.2.2.1 v97 hc97) (cwV 3 hts (zg_V k_341 k_343 k_7 k_31 g_M_mergedQueue) rfl rfl rfl ⟨rfl, hd_M_mergedQueue⟩ ⟨Nat.le_of_ble_eq_true rfl, Nat.le_of_ble_eq_true rfl⟩) ⟨zrw_b _, va_recv hK hP (q0 := 2) rfl rfl, zrw_p hP hD hK hN [1] [2] hWc hRc (by decide) _⟩ rfl rfl hl.1 rfl (lv_room (Nat.le_of_ble_eq_true rfl)) d_M_mergeInto_97 ⟨Nat.zero_le _, Nat.zero_le _⟩) hP hD hS hA [1] [2] hWc hRc rfl (fun H locs hP hD hS => ?_)
    have hP : va_P D vwCl ([(h1, .inr (0, [.long v21.1, .int v21.2.1, .int v21.2.2.1, .int v58, .int v77, .long v21.2.2.2.2.2.1, .int v21.2.2.2.2.2.2.1, .long v21.2.2.2.2.2.2.2.1, .long v21.2.2.2.2.2.2.2.2.1, .int v21.2.2.2.2.2.2.2.2.2])), (qb, .inl (cB, 16, .inl v97.2)), (h0, .inr (2, [.ref qb])), (h2, zcT b), (h3, zcT y)]) H := hP
    have hD : va_D A ([(h1, .inr (0, [.long v21.1, .int v21.2.1, .int v21.2.2.1, .int v58, .int v77, .long v21.2.2.2.2.2.1, .int v21.2.2.2.2.2.2.1, .long v21.2.2.2.2.2.2.2.1, .long v21.2.2.2.2.2.2.2.2.1, .int v21.2.2.2.2.2.2.2.2.2])), (qb, .inl (cB, 16, .inl v97.2)), (h0, .inr (2, [.ref qb])), (h2, zcT b), (h3, zcT y)]) := hD
    refine va_put (D := D) (ci := 0) (v := .long v97.1) (ty := .long) (C := R_T) (T := T_T) (N := 10) hx hb hts in_T ty_T ok_T nm_T hown hK hP hD hS 0 rfl rfl 5 (by decide) (hts _ k_78) (fun _ h9 => h9) rfl (by decide +kernel) rfl rfl (Nat.le_of_ble_eq_true rfl) d_M_mergeInto_100 (fun H locs hP hD hS => ?_)
    have hP : va_P D vwCl ([(h1, .inr (0, [.long v21.1, .int v21.2.1, .int v21.2.2.1, .int v58, .int v77, .long v97.1, .int v21.2.2.2.2.2.2.1, .long v21.2.2.2.2.2.2.2.1, .long v21.2.2.2.2.2.2.2.2.1, .int v21.2.2.2.2.2.2.2.2.2])), (qb, .inl (cB, 16, .inl v97.2)), (h0, .inr (2, [.ref qb])), (h2, zcT b), (h3, zcT y)]) H := hP
    have hD : va_D A ([(h1, .inr (0, [.long v21.1, .int v21.2.1, .int v21.2.2.1, .int v58, .int v77, .long v97.1, .int v21.2.2.2.2.2.2.1, .long v21.2.2.2.2.2.2.2.1, .long v21.2.2.2.2.2.2.2.2.1, .int v21.2.2.2.2.2.2.2.2.2])), (qb, .inl (cB, 16, .inl v97.2)), (h0, .inr (2, [.ref qb])), (h2, zcT b), (h3, zcT y)]) := hD
    refine lv_aload_n hx hb d_M_mergeInto_103 rfl (lv_at hl 1 rfl) ?_
    refine va_get (D := D) (ci := 0) (v := .long v97.1) (C := R_T) (T := T_T) (N := 10) hx hb hts in_T hown hK hP (0) rfl rfl 5 (by decide) (hts _ k_78) (fun _ h9 => h9) rfl d_M_mergeInto_104 ?_
    refine lv_ldc2 (v := (-1)) hx hb hown (hts _ k_352) d_M_mergeInto_107 ?_
    refine W.lcmp hx hb d_M_mergeInto_110 ?_
    refine lv_if_ne (tgt := 117) hx hb d_M_mergeInto_111 (by decide) (fun c_111 => ?_) (fun c_111 => ?_)
    · have hres := zi_n c_111 hres
      refine lv_aload_n hx hb d_M_mergeInto_117 rfl (lv_at hl 1 rfl) ?_
      refine lv_aload_n hx hb d_M_mergeInto_118 rfl (lv_at hl 2 rfl) ?_
      refine lv_aload_n hx hb d_M_mergeInto_119 rfl (lv_at hl 3 rfl) ?_
      obtain ⟨v120, hc120, hres⟩ := zo_b hres
      have hWc : ([0] : List Nat).map (fun i => ([(h1, .inr (0, [.long v21.1, .int v21.2.1, .int v21.2.2.1, .int v58, .int v77, .long v97.1, .int v21.2.2.2.2.2.2.1, .long v21.2.2.2.2.2.2.2.1, .long v21.2.2.2.2.2.2.2.2.1, .int v21.2.2.2.2.2.2.2.2.2])), (qb, .inl (cB, 16, .inl v97.2)), (h0, .inr (2, [.ref qb])), (h2, zcT b), (h3, zcT y)])[i]?) = ([(h1, .inr (0, [.long v21.1, .int v21.2.1, .int v21.2.2.1, .int v58, .int v77, .long v97.1, .int v21.2.2.2.2.2.2.1, .long v21.2.2.2.2.2.2.2.1, .long v21.2.2.2.2.2.2.2.2.1, .int v21.2.2.2.2.2.2.2.2.2]))] : va_W).map some := (zcons rfl znil)
      have hRc : ([3, 4] : List Nat).map (fun i => ([(h1, .inr (0, [.long v21.1, .int v21.2.1, .int v21.2.2.1, .int v58, .int v77, .long v97.1, .int v21.2.2.2.2.2.2.1, .long v21.2.2.2.2.2.2.2.1, .long v21.2.2.2.2.2.2.2.2.1, .int v21.2.2.2.2.2.2.2.2.2])), (qb, .inl (cB, 16, .inl v97.2)), (h0, .inr (2, [.ref qb])), (h2, zcT b), (h3, zcT y)])[i]?) = ([(h2, zcT b), (h3, zcT y)] : va_W).map some := (zcons rfl (zcons rfl znil))
      refine zd_i (wcw := [(h1, .inr (0, [.long v21.1, .int v21.2.1, .int v21.2.2.1, .int v58, .int v77, .long v97.1, .int v21.2.2.2.2.2.2.1, .long v21.2.2.2.2.2.2.2.1, .long v21.2.2.2.2.2.2.2.2.1, .int v21.2.2.2.2.2.2.2.2.2]))]) (wro := [(h2, zcT b), (h3, zcT y)]) (w1w := [(h1, zcT v120.2)]) (v := v120.1) (va_runS (As := [.ref h1, .ref h2, .ref h3]) (rest := []) ⟨hx, hb, hml, hown, hts⟩ (c_M_mergeOption l D tys _ h1 h2 h3 (v21.1, v21.2.1, v21.2.2.1, v58, v77, v97.1, v21.2.2.2.2.2.2.1, v21.2.2.2.2.2.2.2.1, v21.2.2.2.2.2.2.2.2.1, v21.2.2.2.2.2.2.2.2.2) b y v120 hc120) (va_cwS 3 hts (zg_S k_362 k_363 k_31 g_M_mergeOption) rfl rfl rfl hd_M_mergeOption ⟨Nat.le_of_ble_eq_true rfl, Nat.le_of_ble_eq_true rfl⟩) ⟨zrw_b _, zrw_p hP hD hK hN [0] [3, 4] hWc hRc (by decide) _⟩ rfl rfl hl.1 rfl (lv_room (Nat.le_of_ble_eq_true rfl)) d_M_mergeInto_120 ⟨Nat.zero_le _, Nat.zero_le _⟩) hP hD hS hA [0] [3, 4] hWc hRc rfl (fun H locs hP hD hS => ?_)
      have hP : va_P D vwCl ([(h1, zcT v120.2), (qb, .inl (cB, 16, .inl v97.2)), (h0, .inr (2, [.ref qb])), (h2, zcT b), (h3, zcT y)]) H := hP
      have hD : va_D A ([(h1, zcT v120.2), (qb, .inl (cB, 16, .inl v97.2)), (h0, .inr (2, [.ref qb])), (h2, zcT b), (h3, zcT y)]) := hD
      refine lv_if_ne (tgt := 129) hx hb d_M_mergeInto_123 (by decide) (fun c_123 => ?_) (fun c_123 => ?_)
      · have hres := zi_n c_123 hres
        refine lv_aload_n hx hb d_M_mergeInto_129 rfl (lv_at hl 2 rfl) ?_
        refine va_get (D := D) (ci := 0) (v := .int b.2.2.2.2.2.2.2.2.2) (C := R_T) (T := T_T) (N := 10) hx hb hts in_T hown hK hP (3) rfl rfl 9 (by decide) (hts _ k_98) (fun _ h9 => h9) rfl d_M_mergeInto_130 ?_
        refine lv_aload_n hx hb d_M_mergeInto_133 rfl (lv_at hl 1 rfl) ?_
        refine va_get (D := D) (ci := 0) (v := .int v120.2.2.2.2.2.2.2.2.2.2) (C := R_T) (T := T_T) (N := 10) hx hb hts in_T hown hK hP (0) rfl rfl 9 (by decide) (hts _ k_98) (fun _ h9 => h9) rfl d_M_mergeInto_134 ?_
        refine lv_aload_n hx hb d_M_mergeInto_137 rfl (lv_at hl 3 rfl) ?_
        refine va_get (D := D) (ci := 0) (v := .int y.2.2.2.2.2.2.2.2.2) (C := R_T) (T := T_T) (N := 10) hx hb hts in_T hown hK hP (4) rfl rfl 9 (by decide) (hts _ k_98) (fun _ h9 => h9) rfl d_M_mergeInto_138 ?_
        obtain ⟨v141, hc141, hres⟩ := zo_b hres
        refine vp_callSi (va_Run.run (va_runS (As := [.int b.2.2.2.2.2.2.2.2.2, .int v120.2.2.2.2.2.2.2.2.2.2, .int y.2.2.2.2.2.2.2.2.2]) (rest := []) ⟨hx, hb, hml, hown, hts⟩ (c_M_clash l D tys b.2.2.2.2.2.2.2.2.2 v120.2.2.2.2.2.2.2.2.2.2 y.2.2.2.2.2.2.2.2.2 v141 hc141) (va_cwS 3 hts (zg_S k_332 k_333 k_31 g_M_clash) rfl rfl rfl hd_M_clash ⟨Nat.le_of_ble_eq_true rfl, Nat.le_of_ble_eq_true rfl⟩) ⟨zro_b _, zro_p va_Pnil hK hN _⟩ rfl rfl hl.1 rfl (lv_room (Nat.le_of_ble_eq_true rfl)) d_M_mergeInto_141 ⟨Nat.zero_le _, Nat.zero_le _⟩)) (fun r_141 er_141 => ?_)
        have er_141 := er_141.symm
        subst er_141
        refine lv_if_eq (tgt := 150) hx hb d_M_mergeInto_144 (by decide) (fun c_144 => ?_) (fun c_144 => ?_)
        · have hres := zi_p c_144 hres
          refine lv_aload_n hx hb d_M_mergeInto_150 rfl (lv_at hl 1 rfl) ?_
          refine lv_aload_n hx hb d_M_mergeInto_151 rfl (lv_at hl 2 rfl) ?_
          refine va_get (D := D) (ci := 0) (v := .long b.2.2.2.2.2.2.2.2.1) (C := R_T) (T := T_T) (N := 10) hx hb hts in_T hown hK hP (3) rfl rfl 8 (by decide) (hts _ k_93) (fun _ h9 => h9) rfl d_M_mergeInto_152 ?_
          refine lv_aload_n hx hb d_M_mergeInto_155 rfl (lv_at hl 1 rfl) ?_
          refine va_get (D := D) (ci := 0) (v := .long v120.2.2.2.2.2.2.2.2.2.1) (C := R_T) (T := T_T) (N := 10) hx hb hts in_T hown hK hP (0) rfl rfl 8 (by decide) (hts _ k_93) (fun _ h9 => h9) rfl d_M_mergeInto_156 ?_
          refine lv_aload_n hx hb d_M_mergeInto_159 rfl (lv_at hl 3 rfl) ?_
          refine va_get (D := D) (ci := 0) (v := .long y.2.2.2.2.2.2.2.2.1) (C := R_T) (T := T_T) (N := 10) hx hb hts in_T hown hK hP (4) rfl rfl 8 (by decide) (hts _ k_93) (fun _ h9 => h9) rfl d_M_mergeInto_160 ?_
          obtain ⟨v163, hc163, hres⟩ := zo_b hres
          refine vp_callSl (va_Run.run (va_runS (As := [.long b.2.2.2.2.2.2.2.2.1, .long v120.2.2.2.2.2.2.2.2.2.1, .long y.2.2.2.2.2.2.2.2.1]) (rest := [.ref h1]) ⟨hx, hb, hml, hown, hts⟩ (c_M_mergedLong l D tys b.2.2.2.2.2.2.2.2.1 v120.2.2.2.2.2.2.2.2.2.1 y.2.2.2.2.2.2.2.2.1 v163 hc163) (va_cwS 3 hts (zg_S k_326 k_327 k_31 g_M_mergedLong) rfl rfl rfl hd_M_mergedLong ⟨Nat.le_of_ble_eq_true rfl, Nat.le_of_ble_eq_true rfl⟩) ⟨zro_b _, zro_p va_Pnil hK hN _⟩ rfl rfl hl.1 rfl (lv_room (Nat.le_of_ble_eq_true rfl)) d_M_mergeInto_163 ⟨Nat.zero_le _, Nat.zero_le _⟩)) (fun r_163 er_163 => ?_)
          have er_163 := er_163.symm
          subst er_163
          refine va_put (D := D) (ci := 0) (v := .long v163) (ty := .long) (C := R_T) (T := T_T) (N := 10) hx hb hts in_T ty_T ok_T nm_T hown hK hP hD hS 0 rfl rfl 8 (by decide) (hts _ k_93) (fun _ h9 => h9) rfl (by decide +kernel) rfl rfl (Nat.le_of_ble_eq_true rfl) d_M_mergeInto_166 (fun H locs hP hD hS => ?_)
          have hP : va_P D vwCl ([(h1, .inr (0, [.long v120.2.1, .int v120.2.2.1, .int v120.2.2.2.1, .int v120.2.2.2.2.1, .int v120.2.2.2.2.2.1, .long v120.2.2.2.2.2.2.1, .int v120.2.2.2.2.2.2.2.1, .long v120.2.2.2.2.2.2.2.2.1, .long v163, .int v120.2.2.2.2.2.2.2.2.2.2])), (qb, .inl (cB, 16, .inl v97.2)), (h0, .inr (2, [.ref qb])), (h2, zcT b), (h3, zcT y)]) H := hP
          have hD : va_D A ([(h1, .inr (0, [.long v120.2.1, .int v120.2.2.1, .int v120.2.2.2.1, .int v120.2.2.2.2.1, .int v120.2.2.2.2.2.1, .long v120.2.2.2.2.2.2.1, .int v120.2.2.2.2.2.2.2.1, .long v120.2.2.2.2.2.2.2.2.1, .long v163, .int v120.2.2.2.2.2.2.2.2.2.2])), (qb, .inl (cB, 16, .inl v97.2)), (h0, .inr (2, [.ref qb])), (h2, zcT b), (h3, zcT y)]) := hD
          refine lv_aload_n hx hb d_M_mergeInto_169 rfl (lv_at hl 1 rfl) ?_
          refine lv_aload_n hx hb d_M_mergeInto_170 rfl (lv_at hl 2 rfl) ?_
          refine va_get (D := D) (ci := 0) (v := .int b.2.2.2.2.2.2.2.2.2) (C := R_T) (T := T_T) (N := 10) hx hb hts in_T hown hK hP (3) rfl rfl 9 (by decide) (hts _ k_98) (fun _ h9 => h9) rfl d_M_mergeInto_171 ?_
          refine lv_aload_n hx hb d_M_mergeInto_174 rfl (lv_at hl 1 rfl) ?_
          refine va_get (D := D) (ci := 0) (v := .int v120.2.2.2.2.2.2.2.2.2.2) (C := R_T) (T := T_T) (N := 10) hx hb hts in_T hown hK hP (0) rfl rfl 9 (by decide) (hts _ k_98) (fun _ h9 => h9) rfl d_M_mergeInto_175 ?_
          refine lv_aload_n hx hb d_M_mergeInto_178 rfl (lv_at hl 3 rfl) ?_
          refine va_get (D := D) (ci := 0) (v := .int y.2.2.2.2.2.2.2.2.2) (C := R_T) (T := T_T) (N := 10) hx hb hts in_T hown hK hP (4) rfl rfl 9 (by decide) (hts _ k_98) (fun _ h9 => h9) rfl d_M_mergeInto_179 ?_
          obtain ⟨v182, hc182, hres⟩ := zo_b hres
          refine vp_callSi (va_Run.run (va_runS (As := [.int b.2.2.2.2.2.2.2.2.2, .int v120.2.2.2.2.2.2.2.2.2.2, .int y.2.2.2.2.2.2.2.2.2]) (rest := [.ref h1]) ⟨hx, hb, hml, hown, hts⟩ (c_M_mergedInt l D tys b.2.2.2.2.2.2.2.2.2 v120.2.2.2.2.2.2.2.2.2.2 y.2.2.2.2.2.2.2.2.2 v182 hc182) (va_cwS 3 hts (zg_S k_335 k_336 k_31 g_M_mergedInt) rfl rfl rfl hd_M_mergedInt ⟨Nat.le_of_ble_eq_true rfl, Nat.le_of_ble_eq_true rfl⟩) ⟨zro_b _, zro_p va_Pnil hK hN _⟩ rfl rfl hl.1 rfl (lv_room (Nat.le_of_ble_eq_true rfl)) d_M_mergeInto_182 ⟨Nat.zero_le _, Nat.zero_le _⟩)) (fun r_182 er_182 => ?_)
          have er_182 := er_182.symm
          subst er_182
          refine va_put (D := D) (ci := 0) (v := .int v182) (ty := .int) (C := R_T) (T := T_T) (N := 10) hx hb hts in_T ty_T ok_T nm_T hown hK hP hD hS 0 rfl rfl 9 (by decide) (hts _ k_98) (fun _ h9 => h9) rfl (by decide +kernel) rfl rfl (Nat.le_of_ble_eq_true rfl) d_M_mergeInto_185 (fun H locs hP hD hS => ?_)
          have hP : va_P D vwCl ([(h1, .inr (0, [.long v120.2.1, .int v120.2.2.1, .int v120.2.2.2.1, .int v120.2.2.2.2.1, .int v120.2.2.2.2.2.1, .long v120.2.2.2.2.2.2.1, .int v120.2.2.2.2.2.2.2.1, .long v120.2.2.2.2.2.2.2.2.1, .long v163, .int v182])), (qb, .inl (cB, 16, .inl v97.2)), (h0, .inr (2, [.ref qb])), (h2, zcT b), (h3, zcT y)]) H := hP
          have hD : va_D A ([(h1, .inr (0, [.long v120.2.1, .int v120.2.2.1, .int v120.2.2.2.1, .int v120.2.2.2.2.1, .int v120.2.2.2.2.2.1, .long v120.2.2.2.2.2.2.1, .int v120.2.2.2.2.2.2.2.1, .long v120.2.2.2.2.2.2.2.2.1, .long v163, .int v182])), (qb, .inl (cB, 16, .inl v97.2)), (h0, .inr (2, [.ref qb])), (h2, zcT b), (h3, zcT y)]) := hD
          refine lv_iconst (v := 0) hx hb d_M_mergeInto_188 (by decide) ?_
          obtain rfl := Option.some.inj hres
          exact W.iret (v := 0) hx hb hr (fun t ht hW => ⟨⟨_, (), rfl, rfl, by rw [ht]; exact hP, va_K.moved hW.alike hK, hD⟩, hS.F ht⟩) hS.2.2 d_M_mergeInto_189
        · have hres := zi_n c_144 hres
          refine lv_bipush (v := (-16)) hx hb d_M_mergeInto_147 (by decide) ?_
          obtain rfl := Option.some.inj hres
          exact W.iret (v := (-16)) hx hb hr (fun t ht hW => ⟨⟨_, (), rfl, rfl, by rw [ht]; exact hP, va_K.moved hW.alike hK, hD⟩, hS.F ht⟩) hS.2.2 d_M_mergeInto_149
      · have hres := zi_p c_123 hres
        refine lv_bipush (v := (-15)) hx hb d_M_mergeInto_126 (by decide) ?_
        obtain rfl := Option.some.inj hres
        exact W.iret (v := (-15)) hx hb hr (fun t ht hW => ⟨⟨_, (), rfl, rfl, by rw [ht]; exact hP, va_K.moved hW.alike hK, hD⟩, hS.F ht⟩) hS.2.2 d_M_mergeInto_128
    · have hres := zi_p c_111 hres
      refine lv_bipush (v := (-14)) hx hb d_M_mergeInto_114 (by decide) ?_
      obtain rfl := Option.some.inj hres
      exact W.iret (v := (-14)) hx hb hr (fun t ht hW => ⟨⟨_, (), rfl, rfl, by rw [ht]; exact hP, va_K.moved hW.alike hK, hD⟩, hS.F ht⟩) hS.2.2 d_M_mergeInto_116
  · have hres := zi_n c_39 hres
    refine lv_bipush (v := (-12)) hx hb d_M_mergeInto_42 (by decide) ?_
    obtain rfl := Option.some.inj hres
    exact W.iret (v := (-12)) hx hb hr (fun t ht hW => ⟨⟨_, (), rfl, rfl, by rw [ht]; exact hP, va_K.moved hW.alike hK, hD⟩, hS.F ht⟩) hS.2.2 d_M_mergeInto_44

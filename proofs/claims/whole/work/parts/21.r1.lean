def f_R_event (ρ : RSt) (a0 : Int32) : Option (Int32) :=
  if a0 < 0 then
    some (-1)
  else
    if ρ.2.2.1.1.1 ≤ a0 then
      some (-1)
    else
      if zin a0 100 then
        some (ρ.2.2.1.1.2 a0.toNatClampNeg)
      else
        none
set_option maxHeartbeats 4000000 in
set_option maxRecDepth 100000 in
theorem c_R_event (l : Launch) (D : va_G) (tys : List (ClassId × FieldType)) (q : Nat → Nat) (cR : Nat → ClassId) (ρ : RSt) (a0 : Int32) (v : Int32) (hres : f_R_event ρ a0 = some v) : Met l y_R_event w_R_event ({ frames := 0, cells := 0, slots := 0, locals := 0 } : Room) (va_Pc ([.ref (q 0), .int a0]) (zro D (zRt cR) (zR q cR ρ))) (vp_Si (fun r : Int32 => r = v)) 0 0 (fun _ => False) := by
  refine Met.ofW (cc := b_R_event) (maxL := 2) (ret := (some .int)) (by decide) rfl ?_
  intro p e s m args below meth c s₁ B hml hv
  obtain ⟨rfl, hP, hK, hN⟩ := hv
  have hx := B.exec
  have hb := B.bytes
  have hr := B.returns
  have hts : ∀ w ∈ zt, w.before ([.ref (q 0), .int a0].toArray) s = true := fun w h => atoms_spec (ws := w_R_event) B.pre w (List.mem_cons_of_mem _ h)
  have hown : s.vm.findClass R_R = some m.cls := findClass_of_methodNamed B.named
  have hlocks := B.notSynchronized
  have hl := lv_entry ([.ref (q 0), .int a0]) (n := 2) (Nat.le_of_ble_eq_true rfl)
  rw [lg_entry_eq]
  generalize (lg_sl ([.ref (q 0), .int a0]) ++ List.replicate (2 - (lg_sl ([.ref (q 0), .int a0])).length) Slot.unset).toArray = ls at hl ⊢
  have hl : lv_has ls 2 [(0, .ref (q 0)), (1, .int a0)] := hl
  unfold f_R_event at hres
  refine lv_iload_n hx hb d_R_event_0 rfl (lv_at hl 1 rfl) ?_
  refine lv_if_lt (tgt := 21) hx hb d_R_event_1 (by decide) (fun c_1 => ?_) (fun c_1 => ?_)
  · have hres := zi_p c_1 hres
    refine lv_iconst (v := (-1)) hx hb d_R_event_21 (by decide) ?_
    obtain rfl := Option.some.inj hres
    exact W.iret (v := (-1)) hx hb hr (fun t ht hW => ⟨_, rfl, rfl, ht⟩) (fun _ hq => by cases hq) d_R_event_22
  · have hres := zi_n c_1 hres
    refine lv_iload_n hx hb d_R_event_4 rfl (lv_at hl 1 rfl) ?_
    refine lv_aload_n hx hb d_R_event_5 rfl (lv_at hl 0 rfl) ?_
    refine va_get (D := D) (ci := 4) (v := .int ρ.2.2.1.1.1) (C := R_R) (T := T_R) (N := 23) hx hb hts in_R hown hK hP (0) rfl rfl 18 (by decide) (hts _ k_446) (fun _ h9 => h9) rfl d_R_event_6 ?_
    refine lv_icmp_ge (tgt := 21) hx hb d_R_event_9 (by decide) (fun c_9 => ?_) (fun c_9 => ?_)
    · have hres := zi_p c_9 hres
      refine lv_iconst (v := (-1)) hx hb d_R_event_21 (by decide) ?_
      obtain rfl := Option.some.inj hres
      exact W.iret (v := (-1)) hx hb hr (fun t ht hW => ⟨_, rfl, rfl, ht⟩) (fun _ hq => by cases hq) d_R_event_22
    · have hres := zi_n c_9 hres
      refine lv_aload_n hx hb d_R_event_12 rfl (lv_at hl 0 rfl) ?_
      refine va_get (D := D) (ci := 4) (v := .ref (q 18)) (C := R_R) (T := T_R) (N := 23) hx hb hts in_R hown hK hP (0) rfl rfl 19 (by decide) (hts _ k_447) (fun _ h9 => h9) rfl d_R_event_13 ?_
      refine lv_iload_n hx hb d_R_event_16 rfl (lv_at hl 1 rfl) ?_
      by_cases ck_17 : zin a0 100
      · have hres := zi_p ck_17 hres
        refine va_iald hx hb hK hP 18 17 rfl rfl ck_17 d_R_event_17 ?_
        refine lv_goto (tgt := 22) hx hb d_R_event_18 (by decide) ?_
        obtain rfl := Option.some.inj hres
        exact W.iret (v := (ρ.2.2.1.1.2 a0.toNatClampNeg)) hx hb hr (fun t ht hW => ⟨_, rfl, rfl, ht⟩) (fun _ hq => by cases hq) d_R_event_22
      · exact absurd (zi_n ck_17 hres) (by simp)
def f_R_events (ρ : RSt) : Option (Int32) :=
  some ρ.2.2.1.1.1
set_option maxHeartbeats 4000000 in
set_option maxRecDepth 100000 in
theorem c_R_events (l : Launch) (D : va_G) (tys : List (ClassId × FieldType)) (q : Nat → Nat) (cR : Nat → ClassId) (ρ : RSt) (v : Int32) (hres : f_R_events ρ = some v) : Met l y_R_events w_R_events ({ frames := 0, cells := 0, slots := 0, locals := 0 } : Room) (va_Pc ([.ref (q 0)]) (zro D (zRt cR) (zR q cR ρ))) (vp_Si (fun r : Int32 => r = v)) 0 0 (fun _ => False) := by
  refine Met.ofW (cc := b_R_events) (maxL := 1) (ret := (some .int)) (by decide) rfl ?_
  intro p e s m args below meth c s₁ B hml hv
  obtain ⟨rfl, hP, hK, hN⟩ := hv
  have hx := B.exec
  have hb := B.bytes
  have hr := B.returns
  have hts : ∀ w ∈ zt, w.before ([.ref (q 0)].toArray) s = true := fun w h => atoms_spec (ws := w_R_events) B.pre w (List.mem_cons_of_mem _ h)
  have hown : s.vm.findClass R_R = some m.cls := findClass_of_methodNamed B.named
  have hlocks := B.notSynchronized
  have hl := lv_entry ([.ref (q 0)]) (n := 1) (Nat.le_of_ble_eq_true rfl)
  rw [lg_entry_eq]
  generalize (lg_sl ([.ref (q 0)]) ++ List.replicate (1 - (lg_sl ([.ref (q 0)])).length) Slot.unset).toArray = ls at hl ⊢
  have hl : lv_has ls 1 [(0, .ref (q 0))] := hl
  unfold f_R_events at hres
  refine lv_aload_n hx hb d_R_events_0 rfl (lv_at hl 0 rfl) ?_
  refine va_get (D := D) (ci := 4) (v := .int ρ.2.2.1.1.1) (C := R_R) (T := T_R) (N := 23) hx hb hts in_R hown hK hP (0) rfl rfl 18 (by decide) (hts _ k_446) (fun _ h9 => h9) rfl d_R_events_1 ?_
  obtain rfl := Option.some.inj hres
  exact W.iret (v := ρ.2.2.1.1.1) hx hb hr (fun t ht hW => ⟨_, rfl, rfl, ht⟩) (fun _ hq => by cases hq) d_R_events_4
def f_R_isAbove (ρ : RSt) (a0 : Int32) (a1 : Int32) : Option (Int32) :=
  if zin a1 60 then
    if (lg_cmp ((zr_l (ρ.2.1.1.2 a1.toNatClampNeg) a0) &&& 1) 1) = 0 then
      some 1
    else
      some 0
  else
    none
set_option maxHeartbeats 4000000 in
set_option maxRecDepth 100000 in
theorem c_R_isAbove (l : Launch) (D : va_G) (tys : List (ClassId × FieldType)) (q : Nat → Nat) (cR : Nat → ClassId) (ρ : RSt) (a0 : Int32) (a1 : Int32) (v : Int32) (hres : f_R_isAbove ρ a0 a1 = some v) : Met l y_R_isAbove w_R_isAbove ({ frames := 0, cells := 0, slots := 0, locals := 0 } : Room) (va_Pc ([.ref (q 0), .int a0, .int a1]) (zro D (zRt cR) (zR q cR ρ))) (vp_Si (fun r : Int32 => r = v)) 0 0 (fun _ => False) := by
  refine Met.ofW (cc := b_R_isAbove) (maxL := 3) (ret := (some .boolean)) (by decide) rfl ?_
  intro p e s m args below meth c s₁ B hml hv
  obtain ⟨rfl, hP, hK, hN⟩ := hv
  have hx := B.exec
  have hb := B.bytes
  have hr := B.returns
  have hts : ∀ w ∈ zt, w.before ([.ref (q 0), .int a0, .int a1].toArray) s = true := fun w h => atoms_spec (ws := w_R_isAbove) B.pre w (List.mem_cons_of_mem _ h)
  have hown : s.vm.findClass R_R = some m.cls := findClass_of_methodNamed B.named
  have hlocks := B.notSynchronized
  have hl := lv_entry ([.ref (q 0), .int a0, .int a1]) (n := 3) (Nat.le_of_ble_eq_true rfl)
  rw [lg_entry_eq]
  generalize (lg_sl ([.ref (q 0), .int a0, .int a1]) ++ List.replicate (3 - (lg_sl ([.ref (q 0), .int a0, .int a1])).length) Slot.unset).toArray = ls at hl ⊢
  have hl : lv_has ls 3 [(0, .ref (q 0)), (1, .int a0), (2, .int a1)] := hl
  unfold f_R_isAbove at hres
  refine lv_aload_n hx hb d_R_isAbove_0 rfl (lv_at hl 0 rfl) ?_
  refine va_get (D := D) (ci := 4) (v := .ref (q 14)) (C := R_R) (T := T_R) (N := 23) hx hb hts in_R hown hK hP (0) rfl rfl 14 (by decide) (hts _ k_442) (fun _ h9 => h9) rfl d_R_isAbove_1 ?_
  refine lv_iload_n hx hb d_R_isAbove_4 rfl (lv_at hl 2 rfl) ?_
  by_cases ck_5 : zin a1 60
  · have hres := zi_p ck_5 hres
    refine va_lald hx hb hK hP 14 13 rfl rfl ck_5 d_R_isAbove_5 ?_
    refine lv_iload_n hx hb d_R_isAbove_6 rfl (lv_at hl 1 rfl) ?_
    refine lv_lshr (v := (zr_l (ρ.2.1.1.2 a1.toNatClampNeg) a0)) hx hb d_R_isAbove_7 rfl ?_
    refine lv_lconst (v := 1) hx hb d_R_isAbove_8 (by decide) ?_
    refine lv_land hx hb d_R_isAbove_9 ?_
    refine lv_lconst (v := 1) hx hb d_R_isAbove_10 (by decide) ?_
    refine W.lcmp hx hb d_R_isAbove_11 ?_
    refine lv_if_ne (tgt := 19) hx hb d_R_isAbove_12 (by decide) (fun c_12 => ?_) (fun c_12 => ?_)
    · have hres := zi_n c_12 hres
      refine lv_iconst (v := 0) hx hb d_R_isAbove_19 (by decide) ?_
      obtain rfl := Option.some.inj hres
      exact W.zret (v := 0) (ty := .boolean) hx hb hr rfl (fun t ht hW => ⟨_, rfl, rfl, ht⟩) (fun _ hq => by cases hq) d_R_isAbove_20
    · have hres := zi_p c_12 hres
      refine lv_iconst (v := 1) hx hb d_R_isAbove_15 (by decide) ?_
      refine lv_goto (tgt := 20) hx hb d_R_isAbove_16 (by decide) ?_
      obtain rfl := Option.some.inj hres
      exact W.zret (v := 1) (ty := .boolean) hx hb hr rfl (fun t ht hW => ⟨_, rfl, rfl, ht⟩) (fun _ hq => by cases hq) d_R_isAbove_20
  · exact absurd (zi_n ck_5 hres) (by simp)
def f_R_isBranch (a0 : Int32) : Option (Int32) :=
  if a0 < 0 then
    some 0
  else
    if 3 < a0 then
      some 0
    else
      some 1
set_option maxHeartbeats 4000000 in
set_option maxRecDepth 100000 in
theorem c_R_isBranch (l : Launch) (D : va_G) (tys : List (ClassId × FieldType)) (a0 : Int32) (v : Int32) (hres : f_R_isBranch a0 = some v) : Met l y_R_isBranch w_R_isBranch ({ frames := 0, cells := 0, slots := 0, locals := 0 } : Room) (va_Pc ([.int a0]) (zro D tys ([]))) (vp_Si (fun r : Int32 => r = v)) 0 0 (fun _ => False) := by
  refine Met.ofW (cc := b_R_isBranch) (maxL := 1) (ret := (some .boolean)) (by decide) rfl ?_
  intro p e s m args below meth c s₁ B hml hv
  obtain ⟨rfl, hP, hK, hN⟩ := hv
  have hx := B.exec
  have hb := B.bytes
  have hr := B.returns
  have hts : ∀ w ∈ zt, w.before ([.int a0].toArray) s = true := fun w h => atoms_spec (ws := w_R_isBranch) B.pre w (List.mem_cons_of_mem _ h)
  have hown : s.vm.findClass R_R = some m.cls := findClass_of_methodNamed B.named
  have hlocks := B.notSynchronized
  have hl := lv_entry ([.int a0]) (n := 1) (Nat.le_of_ble_eq_true rfl)
  rw [lg_entry_eq]
  generalize (lg_sl ([.int a0]) ++ List.replicate (1 - (lg_sl ([.int a0])).length) Slot.unset).toArray = ls at hl ⊢
  have hl : lv_has ls 1 [(0, .int a0)] := hl
  unfold f_R_isBranch at hres
  refine lv_iload_n hx hb d_R_isBranch_0 rfl (lv_at hl 0 rfl) ?_
  refine lv_if_lt (tgt := 13) hx hb d_R_isBranch_1 (by decide) (fun c_1 => ?_) (fun c_1 => ?_)
  · have hres := zi_p c_1 hres
    refine lv_iconst (v := 0) hx hb d_R_isBranch_13 (by decide) ?_
    obtain rfl := Option.some.inj hres
    exact W.zret (v := 0) (ty := .boolean) hx hb hr rfl (fun t ht hW => ⟨_, rfl, rfl, ht⟩) (fun _ hq => by cases hq) d_R_isBranch_14
  · have hres := zi_n c_1 hres
    refine lv_iload_n hx hb d_R_isBranch_4 rfl (lv_at hl 0 rfl) ?_
    refine lv_iconst (v := 3) hx hb d_R_isBranch_5 (by decide) ?_
    refine lv_icmp_gt (tgt := 13) hx hb d_R_isBranch_6 (by decide) (fun c_6 => ?_) (fun c_6 => ?_)
    · have hres := zi_p c_6 hres
      refine lv_iconst (v := 0) hx hb d_R_isBranch_13 (by decide) ?_
      obtain rfl := Option.some.inj hres
      exact W.zret (v := 0) (ty := .boolean) hx hb hr rfl (fun t ht hW => ⟨_, rfl, rfl, ht⟩) (fun _ hq => by cases hq) d_R_isBranch_14
    · have hres := zi_n c_6 hres
      refine lv_iconst (v := 1) hx hb d_R_isBranch_9 (by decide) ?_
      refine lv_goto (tgt := 14) hx hb d_R_isBranch_10 (by decide) ?_
      obtain rfl := Option.some.inj hres
      exact W.zret (v := 1) (ty := .boolean) hx hb hr rfl (fun t ht hW => ⟨_, rfl, rfl, ht⟩) (fun _ hq => by cases hq) d_R_isBranch_14
def f_R_isCommit (ρ : RSt) (a0 : Int32) : Option (Int32) :=
  if a0 < 0 then
    some 0
  else
    if ρ.1.2.2.2 ≤ a0 then
      some 0
    else
      some 1
set_option maxHeartbeats 4000000 in
set_option maxRecDepth 100000 in
theorem c_R_isCommit (l : Launch) (D : va_G) (tys : List (ClassId × FieldType)) (q : Nat → Nat) (cR : Nat → ClassId) (ρ : RSt) (a0 : Int32) (v : Int32) (hres : f_R_isCommit ρ a0 = some v) : Met l y_R_isCommit w_R_isCommit ({ frames := 0, cells := 0, slots := 0, locals := 0 } : Room) (va_Pc ([.ref (q 0), .int a0]) (zro D (zRt cR) (zR q cR ρ))) (vp_Si (fun r : Int32 => r = v)) 0 0 (fun _ => False) := by
  refine Met.ofW (cc := b_R_isCommit) (maxL := 2) (ret := (some .boolean)) (by decide) rfl ?_
  intro p e s m args below meth c s₁ B hml hv
  obtain ⟨rfl, hP, hK, hN⟩ := hv
  have hx := B.exec
  have hb := B.bytes
  have hr := B.returns
  have hts : ∀ w ∈ zt, w.before ([.ref (q 0), .int a0].toArray) s = true := fun w h => atoms_spec (ws := w_R_isCommit) B.pre w (List.mem_cons_of_mem _ h)
  have hown : s.vm.findClass R_R = some m.cls := findClass_of_methodNamed B.named
  have hlocks := B.notSynchronized
  have hl := lv_entry ([.ref (q 0), .int a0]) (n := 2) (Nat.le_of_ble_eq_true rfl)
  rw [lg_entry_eq]
  generalize (lg_sl ([.ref (q 0), .int a0]) ++ List.replicate (2 - (lg_sl ([.ref (q 0), .int a0])).length) Slot.unset).toArray = ls at hl ⊢
  have hl : lv_has ls 2 [(0, .ref (q 0)), (1, .int a0)] := hl
  unfold f_R_isCommit at hres
  refine lv_iload_n hx hb d_R_isCommit_0 rfl (lv_at hl 1 rfl) ?_
  refine lv_if_lt (tgt := 16) hx hb d_R_isCommit_1 (by decide) (fun c_1 => ?_) (fun c_1 => ?_)
  · have hres := zi_p c_1 hres
    refine lv_iconst (v := 0) hx hb d_R_isCommit_16 (by decide) ?_
    obtain rfl := Option.some.inj hres
    exact W.zret (v := 0) (ty := .boolean) hx hb hr rfl (fun t ht hW => ⟨_, rfl, rfl, ht⟩) (fun _ hq => by cases hq) d_R_isCommit_17
  · have hres := zi_n c_1 hres
    refine lv_iload_n hx hb d_R_isCommit_4 rfl (lv_at hl 1 rfl) ?_
    refine lv_aload_n hx hb d_R_isCommit_5 rfl (lv_at hl 0 rfl) ?_
    refine va_get (D := D) (ci := 4) (v := .int ρ.1.2.2.2) (C := R_R) (T := T_R) (N := 23) hx hb hts in_R hown hK hP (0) rfl rfl 11 (by decide) (hts _ k_439) (fun _ h9 => h9) rfl d_R_isCommit_6 ?_
    refine lv_icmp_ge (tgt := 16) hx hb d_R_isCommit_9 (by decide) (fun c_9 => ?_) (fun c_9 => ?_)
    · have hres := zi_p c_9 hres
      refine lv_iconst (v := 0) hx hb d_R_isCommit_16 (by decide) ?_
      obtain rfl := Option.some.inj hres
      exact W.zret (v := 0) (ty := .boolean) hx hb hr rfl (fun t ht hW => ⟨_, rfl, rfl, ht⟩) (fun _ hq => by cases hq) d_R_isCommit_17
    · have hres := zi_n c_9 hres
      refine lv_iconst (v := 1) hx hb d_R_isCommit_12 (by decide) ?_
      refine lv_goto (tgt := 17) hx hb d_R_isCommit_13 (by decide) ?_
      obtain rfl := Option.some.inj hres
      exact W.zret (v := 1) (ty := .boolean) hx hb hr rfl (fun t ht hW => ⟨_, rfl, rfl, ht⟩) (fun _ hq => by cases hq) d_R_isCommit_17
def L_R_meetOf_55 (ρ : RSt) (a0 : Int32) (a1 : Int32) (x21_7 : Int32) : Nat → Int32 → Int32 → Option (Int32 × Int32)
  | 0, _, _ => none
  | n + 1, x55_9, x55_8 =>
    if ρ.1.2.2.2 ≤ x55_9 then
      some (x55_9, x55_8)
    else
      if x55_8 = 0 then
        L_R_meetOf_55 ρ a0 a1 x21_7 n (x55_9 + 1) 0
      else
        if (lg_cmp ((zr_l ((ρ.2.1.1.2 a0.toNatClampNeg) &&& (ρ.2.1.1.2 a1.toNatClampNeg)) x55_9) &&& 1) 0) = 0 then
          L_R_meetOf_55 ρ a0 a1 x21_7 n (x55_9 + 1) 1
        else
          if zin x55_9 60 then
            if (lg_cmp ((zr_l (ρ.2.1.1.2 x55_9.toNatClampNeg) x21_7) &&& 1) 0) = 0 then
              L_R_meetOf_55 ρ a0 a1 x21_7 n (x55_9 + 1) 1
            else
              L_R_meetOf_55 ρ a0 a1 x21_7 n (x55_9 + 1) 0
          else
            none
def J_R_meetOf_47 (ρ : RSt) (a0 : Int32) (a1 : Int32) (x21_7 : Int32) (x21_6 : Int32) (lc21 : Int32 → Int32 → Option (Int32 ⊕ (Int32 × Int32))) (j47_s0 : Int32) : Option (Int32 ⊕ (Int32 × Int32)) :=
  Option.bind (L_R_meetOf_55 ρ a0 a1 x21_7 zfuel (x21_7 + 1) j47_s0) (fun w55 =>
    if w55.2 = 0 then
      lc21 (x21_7 + 1) x21_6
    else
      if x21_6 = 0 then
        some (Sum.inl x21_7)
      else
        lc21 (x21_7 + 1) (x21_6 + (-1)))
def L_R_meetOf_21 (ρ : RSt) (a0 : Int32) (a1 : Int32) : Nat → Int32 → Int32 → Option (Int32 ⊕ (Int32 × Int32))
  | 0, _, _ => none
  | n + 1, x21_7, x21_6 =>
    if ρ.1.2.2.2 ≤ x21_7 then
      some (Sum.inr (x21_7, x21_6))
    else
      if (lg_cmp ((zr_l ((ρ.2.1.1.2 a0.toNatClampNeg) &&& (ρ.2.1.1.2 a1.toNatClampNeg)) x21_7) &&& 1) 1) = 0 then
        J_R_meetOf_47 ρ a0 a1 x21_7 x21_6 (L_R_meetOf_21 ρ a0 a1 n) 1
      else
        J_R_meetOf_47 ρ a0 a1 x21_7 x21_6 (L_R_meetOf_21 ρ a0 a1 n) 0
def f_R_meetOf (ρ : RSt) (a0 : Int32) (a1 : Int32) (a2 : Int32) : Option (Int32) :=
  if zin a0 60 then
    if zin a1 60 then
      Option.bind (L_R_meetOf_21 ρ a0 a1 zfuel 0 a2) (fun w21 =>
        zs_m w21 (fun r => some r) (fun u21 =>
          some (-1)))
    else
      none
  else
    none
set_option maxHeartbeats 4000000 in
set_option maxRecDepth 100000 in
theorem c_R_meetOf (l : Launch) (D : va_G) (tys : List (ClassId × FieldType)) (q : Nat → Nat) (cR : Nat → ClassId) (ρ : RSt) (a0 : Int32) (a1 : Int32) (a2 : Int32) (v : Int32) (hres : f_R_meetOf ρ a0 a1 a2 = some v) : Met l y_R_meetOf w_R_meetOf ({ frames := 0, cells := 0, slots := 0, locals := 0 } : Room) (va_Pc ([.ref (q 0), .int a0, .int a1, .int a2]) (zro D (zRt cR) (zR q cR ρ))) (vp_Si (fun r : Int32 => r = v)) 0 0 (fun _ => False) := by
  refine Met.ofW (cc := b_R_meetOf) (maxL := 10) (ret := (some .int)) (by decide) rfl ?_
  intro p e s m args below meth c s₁ B hml hv
  obtain ⟨rfl, hP, hK, hN⟩ := hv
  have hx := B.exec
  have hb := B.bytes
  have hr := B.returns
  have hts : ∀ w ∈ zt, w.before ([.ref (q 0), .int a0, .int a1, .int a2].toArray) s = true := fun w h => atoms_spec (ws := w_R_meetOf) B.pre w (List.mem_cons_of_mem _ h)
  have hown : s.vm.findClass R_R = some m.cls := findClass_of_methodNamed B.named
  have hlocks := B.notSynchronized
  have hl := lv_entry ([.ref (q 0), .int a0, .int a1, .int a2]) (n := 10) (Nat.le_of_ble_eq_true rfl)
  rw [lg_entry_eq]
  generalize (lg_sl ([.ref (q 0), .int a0, .int a1, .int a2]) ++ List.replicate (10 - (lg_sl ([.ref (q 0), .int a0, .int a1, .int a2])).length) Slot.unset).toArray = ls at hl ⊢
  have hl : lv_has ls 10 [(0, .ref (q 0)), (1, .int a0), (2, .int a1), (3, .int a2)] := hl
  unfold f_R_meetOf at hres
  refine lv_aload_n hx hb d_R_meetOf_0 rfl (lv_at hl 0 rfl) ?_
  refine va_get (D := D) (ci := 4) (v := .ref (q 14)) (C := R_R) (T := T_R) (N := 23) hx hb hts in_R hown hK hP (0) rfl rfl 14 (by decide) (hts _ k_442) (fun _ h9 => h9) rfl d_R_meetOf_1 ?_
  refine lv_iload_n hx hb d_R_meetOf_4 rfl (lv_at hl 1 rfl) ?_
  by_cases ck_5 : zin a0 60
  · have hres := zi_p ck_5 hres
    refine va_lald hx hb hK hP 14 13 rfl rfl ck_5 d_R_meetOf_5 ?_
    refine lv_aload_n hx hb d_R_meetOf_6 rfl (lv_at hl 0 rfl) ?_
    refine va_get (D := D) (ci := 4) (v := .ref (q 14)) (C := R_R) (T := T_R) (N := 23) hx hb hts in_R hown hK hP (0) rfl rfl 14 (by decide) (hts _ k_442) (fun _ h9 => h9) rfl d_R_meetOf_7 ?_
    refine lv_iload_n hx hb d_R_meetOf_10 rfl (lv_at hl 2 rfl) ?_
    by_cases ck_11 : zin a1 60
    · have hres := zi_p ck_11 hres
      refine va_lald hx hb hK hP 14 13 rfl rfl ck_11 d_R_meetOf_11 ?_
      refine lv_land hx hb d_R_meetOf_12 ?_
      refine lv_lstore (lv' := [(4, .long ((ρ.2.1.1.2 a0.toNatClampNeg) &&& (ρ.2.1.1.2 a1.toNatClampNeg))), (0, .ref (q 0)), (1, .int a0), (2, .int a1), (3, .int a2)]) hx hb d_R_meetOf_13 hl (by decide) rfl (fun ls hl => ?_)
      refine lv_iload_n hx hb d_R_meetOf_15 rfl (lv_at hl 4 rfl) ?_
      refine lv_istore (lv' := [(6, .int a2), (4, .long ((ρ.2.1.1.2 a0.toNatClampNeg) &&& (ρ.2.1.1.2 a1.toNatClampNeg))), (0, .ref (q 0)), (1, .int a0), (2, .int a1), (3, .int a2)]) hx hb d_R_meetOf_16 hl (by decide) rfl (fun ls hl => ?_)
      refine lv_iconst (v := 0) hx hb d_R_meetOf_18 (by decide) ?_
      refine lv_istore (lv' := [(7, .int 0), (6, .int a2), (4, .long ((ρ.2.1.1.2 a0.toNatClampNeg) &&& (ρ.2.1.1.2 a1.toNatClampNeg))), (0, .ref (q 0)), (1, .int a0), (2, .int a1), (3, .int a2)]) hx hb d_R_meetOf_19 hl (by decide) rfl (fun ls hl => ?_)
      obtain ⟨w21, hL21, hres⟩ := zo_b hres
      have hk21 : ∀ (u21 : Int32 × Int32), w21 = Sum.inr u21 → ∀ (ls : Array Slot), lv_has ls 10 [(7, .int u21.1), (6, .int u21.2), (4, .long ((ρ.2.1.1.2 a0.toNatClampNeg) &&& (ρ.2.1.1.2 a1.toNatClampNeg))), (0, .ref (q 0)), (1, .int a0), (2, .int a1), (3, .int a2)] → W p l e (headSpec w_R_meetOf ({ frames := 0, cells := 0, slots := 0, locals := 0 } : Room)).room s m ([.ref (q 0), .int a0, .int a1, .int a2].toArray) below meth c s.heap [] 0 0 (MQ below (vp_Si (fun r : Int32 => r = v)) ([.ref (q 0), .int a0, .int a1, .int a2].toArray) s 0 0 (fun _ => False)) (F0 m 133 ls []) := by
        intro u21 hu21 ls hl
        subst hu21
        have hres := zs_r hres
        refine lv_iconst (v := (-1)) hx hb d_R_meetOf_133 (by decide) ?_
        obtain rfl := Option.some.inj hres
        exact W.iret (v := (-1)) hx hb hr (fun t ht hW => ⟨_, rfl, rfl, ht⟩) (fun _ hq => by cases hq) d_R_meetOf_134
      have hloop21 : ∀ (n : Nat) (x21_7 : Int32) (x21_6 : Int32) (ls : Array Slot), lv_has ls 10 [(7, .int x21_7), (6, .int x21_6), (4, .long ((ρ.2.1.1.2 a0.toNatClampNeg) &&& (ρ.2.1.1.2 a1.toNatClampNeg))), (0, .ref (q 0)), (1, .int a0), (2, .int a1), (3, .int a2)] → L_R_meetOf_21 ρ a0 a1 n x21_7 x21_6 = some w21 → W p l e (headSpec w_R_meetOf ({ frames := 0, cells := 0, slots := 0, locals := 0 } : Room)).room s m ([.ref (q 0), .int a0, .int a1, .int a2].toArray) below meth c s.heap [] 0 0 (MQ below (vp_Si (fun r : Int32 => r = v)) ([.ref (q 0), .int a0, .int a1, .int a2].toArray) s 0 0 (fun _ => False)) (F0 m 21 ls []) := by
        intro n
        induction n with
        | zero => intro x21_7 x21_6 ls hl hL21; cases hL21
        | succ n ih =>
          intro x21_7 x21_6 ls hl hL21
          rw [L_R_meetOf_21] at hL21
          refine lv_iload hx hb d_R_meetOf_21 (lv_at hl 0 rfl) ?_
          refine lv_aload_n hx hb d_R_meetOf_23 rfl (lv_at hl 3 rfl) ?_
          refine va_get (D := D) (ci := 4) (v := .int ρ.1.2.2.2) (C := R_R) (T := T_R) (N := 23) hx hb hts in_R hown hK hP (0) rfl rfl 11 (by decide) (hts _ k_439) (fun _ h9 => h9) rfl d_R_meetOf_24 ?_
          refine lv_icmp_ge (tgt := 133) hx hb d_R_meetOf_27 (by decide) (fun c_27 => ?_) (fun c_27 => ?_)
          · have hL21 := zi_p c_27 hL21
            obtain rfl := Option.some.inj hL21
            exact hk21 _ rfl ls (lv_sub hl [0, 1, 2, 3, 4, 5, 6] rfl)
          · have hL21 := zi_n c_27 hL21
            refine lv_lload hx hb d_R_meetOf_30 (lv_at hl 2 rfl) ?_
            refine lv_iload hx hb d_R_meetOf_32 (lv_at hl 0 rfl) ?_
            refine lv_lshr (v := (zr_l ((ρ.2.1.1.2 a0.toNatClampNeg) &&& (ρ.2.1.1.2 a1.toNatClampNeg)) x21_7)) hx hb d_R_meetOf_34 rfl ?_
            refine lv_lconst (v := 1) hx hb d_R_meetOf_35 (by decide) ?_
            refine lv_land hx hb d_R_meetOf_36 ?_
            refine lv_lconst (v := 1) hx hb d_R_meetOf_37 (by decide) ?_
            refine W.lcmp hx hb d_R_meetOf_38 ?_
            have hj47 : ∀ (j47_s0 : Int32) (ls : Array Slot), lv_has ls 10 [(7, .int x21_7), (6, .int x21_6), (4, .long ((ρ.2.1.1.2 a0.toNatClampNeg) &&& (ρ.2.1.1.2 a1.toNatClampNeg))), (0, .ref (q 0)), (1, .int a0), (2, .int a1), (3, .int a2)] → J_R_meetOf_47 ρ a0 a1 x21_7 x21_6 (L_R_meetOf_21 ρ a0 a1 n) j47_s0 = some w21 → W p l e (headSpec w_R_meetOf ({ frames := 0, cells := 0, slots := 0, locals := 0 } : Room)).room s m ([.ref (q 0), .int a0, .int a1, .int a2].toArray) below meth c s.heap [] 0 0 (MQ below (vp_Si (fun r : Int32 => r = v)) ([.ref (q 0), .int a0, .int a1, .int a2].toArray) s 0 0 (fun _ => False)) (F0 m 47 ls [.int j47_s0]) := by
              intro j47_s0 ls hl hL21
              unfold J_R_meetOf_47 at hL21
              refine lv_istore (lv' := [(8, .int j47_s0), (7, .int x21_7), (6, .int x21_6), (4, .long ((ρ.2.1.1.2 a0.toNatClampNeg) &&& (ρ.2.1.1.2 a1.toNatClampNeg))), (0, .ref (q 0)), (1, .int a0), (2, .int a1), (3, .int a2)]) hx hb d_R_meetOf_47 hl (by decide) rfl (fun ls hl => ?_)
              refine lv_iload hx hb d_R_meetOf_49 (lv_at hl 1 rfl) ?_
              refine lv_iconst (v := 1) hx hb d_R_meetOf_51 (by decide) ?_
              refine lv_iadd hx hb d_R_meetOf_52 ?_
              refine lv_istore (lv' := [(9, .int (x21_7 + 1)), (8, .int j47_s0), (7, .int x21_7), (6, .int x21_6), (4, .long ((ρ.2.1.1.2 a0.toNatClampNeg) &&& (ρ.2.1.1.2 a1.toNatClampNeg))), (0, .ref (q 0)), (1, .int a0), (2, .int a1), (3, .int a2)]) hx hb d_R_meetOf_53 hl (by decide) rfl (fun ls hl => ?_)
              obtain ⟨w55, hL55, hL21⟩ := zo_b hL21
              have hk55 : ∀ (ls : Array Slot), lv_has ls 10 [(9, .int w55.1), (8, .int w55.2), (7, .int x21_7), (6, .int x21_6), (4, .long ((ρ.2.1.1.2 a0.toNatClampNeg) &&& (ρ.2.1.1.2 a1.toNatClampNeg))), (0, .ref (q 0)), (1, .int a0), (2, .int a1), (3, .int a2)] → W p l e (headSpec w_R_meetOf ({ frames := 0, cells := 0, slots := 0, locals := 0 } : Room)).room s m ([.ref (q 0), .int a0, .int a1, .int a2].toArray) below meth c s.heap [] 0 0 (MQ below (vp_Si (fun r : Int32 => r = v)) ([.ref (q 0), .int a0, .int a1, .int a2].toArray) s 0 0 (fun _ => False)) (F0 m 111 ls []) := by
                intro ls hl
                refine lv_iload hx hb d_R_meetOf_111 (lv_at hl 1 rfl) ?_
                refine lv_if_eq (tgt := 127) hx hb d_R_meetOf_113 (by decide) (fun c_113 => ?_) (fun c_113 => ?_)
                · have hL21 := zi_p c_113 hL21
                  refine lv_iinc (v := (x21_7 + 1)) (lv' := [(7, .int (x21_7 + 1)), (9, .int w55.1), (8, .int w55.2), (6, .int x21_6), (4, .long ((ρ.2.1.1.2 a0.toNatClampNeg) &&& (ρ.2.1.1.2 a1.toNatClampNeg))), (0, .ref (q 0)), (1, .int a0), (2, .int a1), (3, .int a2)]) hx hb d_R_meetOf_127 hl (k := 2) rfl rfl (by decide) rfl (fun ls hl => ?_)
                  refine lv_goto (tgt := 21) hx hb d_R_meetOf_130 (by decide) ?_
                  exact ih (x21_7 + 1) x21_6 ls (lv_sub hl [0, 3, 4, 5, 6, 7, 8] rfl) hL21
                · have hL21 := zi_n c_113 hL21
                  refine lv_iload hx hb d_R_meetOf_116 (lv_at hl 3 rfl) ?_
                  refine lv_if_ne (tgt := 124) hx hb d_R_meetOf_118 (by decide) (fun c_118 => ?_) (fun c_118 => ?_)
                  · have hL21 := zi_n c_118 hL21
                    refine lv_iinc (v := (x21_6 + (-1))) (lv' := [(6, .int (x21_6 + (-1))), (9, .int w55.1), (8, .int w55.2), (7, .int x21_7), (4, .long ((ρ.2.1.1.2 a0.toNatClampNeg) &&& (ρ.2.1.1.2 a1.toNatClampNeg))), (0, .ref (q 0)), (1, .int a0), (2, .int a1), (3, .int a2)]) hx hb d_R_meetOf_124 hl (k := 3) rfl rfl (by decide) rfl (fun ls hl => ?_)
                    refine lv_iinc (v := (x21_7 + 1)) (lv' := [(7, .int (x21_7 + 1)), (6, .int (x21_6 + (-1))), (9, .int w55.1), (8, .int w55.2), (4, .long ((ρ.2.1.1.2 a0.toNatClampNeg) &&& (ρ.2.1.1.2 a1.toNatClampNeg))), (0, .ref (q 0)), (1, .int a0), (2, .int a1), (3, .int a2)]) hx hb d_R_meetOf_127 hl (k := 3) rfl rfl (by decide) rfl (fun ls hl => ?_)
                    refine lv_goto (tgt := 21) hx hb d_R_meetOf_130 (by decide) ?_
                    exact ih (x21_7 + 1) (x21_6 + (-1)) ls (lv_sub hl [0, 1, 4, 5, 6, 7, 8] rfl) hL21
                  · have hL21 := zi_p c_118 hL21
                    refine lv_iload hx hb d_R_meetOf_121 (lv_at hl 2 rfl) ?_
                    obtain rfl := Option.some.inj hL21
                    obtain rfl := Option.some.inj hres
                    exact W.iret (v := x21_7) hx hb hr (fun t ht hW => ⟨_, rfl, rfl, ht⟩) (fun _ hq => by cases hq) d_R_meetOf_123
              have hloop55 : ∀ (n : Nat) (x55_9 : Int32) (x55_8 : Int32) (ls : Array Slot), lv_has ls 10 [(9, .int x55_9), (8, .int x55_8), (7, .int x21_7), (6, .int x21_6), (4, .long ((ρ.2.1.1.2 a0.toNatClampNeg) &&& (ρ.2.1.1.2 a1.toNatClampNeg))), (0, .ref (q 0)), (1, .int a0), (2, .int a1), (3, .int a2)] → L_R_meetOf_55 ρ a0 a1 x21_7 n x55_9 x55_8 = some w55 → W p l e (headSpec w_R_meetOf ({ frames := 0, cells := 0, slots := 0, locals := 0 } : Room)).room s m ([.ref (q 0), .int a0, .int a1, .int a2].toArray) below meth c s.heap [] 0 0 (MQ below (vp_Si (fun r : Int32 => r = v)) ([.ref (q 0), .int a0, .int a1, .int a2].toArray) s 0 0 (fun _ => False)) (F0 m 55 ls []) := by
                intro n
                induction n with
                | zero => intro x55_9 x55_8 ls hl hL55; cases hL55
                | succ n ih =>
                  intro x55_9 x55_8 ls hl hL55
                  rw [L_R_meetOf_55] at hL55
                  refine lv_iload hx hb d_R_meetOf_55 (lv_at hl 0 rfl) ?_
                  refine lv_aload_n hx hb d_R_meetOf_57 rfl (lv_at hl 5 rfl) ?_
                  refine va_get (D := D) (ci := 4) (v := .int ρ.1.2.2.2) (C := R_R) (T := T_R) (N := 23) hx hb hts in_R hown hK hP (0) rfl rfl 11 (by decide) (hts _ k_439) (fun _ h9 => h9) rfl d_R_meetOf_58 ?_
                  refine lv_icmp_ge (tgt := 111) hx hb d_R_meetOf_61 (by decide) (fun c_61 => ?_) (fun c_61 => ?_)
                  · have hL55 := zi_p c_61 hL55
                    obtain rfl := Option.some.inj hL55
                    exact hk55 ls (lv_sub hl [0, 1, 2, 3, 4, 5, 6, 7, 8] rfl)
                  · have hL55 := zi_n c_61 hL55
                    refine lv_iload hx hb d_R_meetOf_64 (lv_at hl 1 rfl) ?_
                    refine lv_if_eq (tgt := 102) hx hb d_R_meetOf_66 (by decide) (fun c_66 => ?_) (fun c_66 => ?_)
                    · have hL55 := zi_p c_66 hL55
                      refine lv_iconst (v := 0) hx hb d_R_meetOf_102 (by decide) ?_
                      refine lv_istore (lv' := [(8, .int 0), (9, .int x55_9), (7, .int x21_7), (6, .int x21_6), (4, .long ((ρ.2.1.1.2 a0.toNatClampNeg) &&& (ρ.2.1.1.2 a1.toNatClampNeg))), (0, .ref (q 0)), (1, .int a0), (2, .int a1), (3, .int a2)]) hx hb d_R_meetOf_103 hl (by decide) rfl (fun ls hl => ?_)
                      refine lv_iinc (v := (x55_9 + 1)) (lv' := [(9, .int (x55_9 + 1)), (8, .int 0), (7, .int x21_7), (6, .int x21_6), (4, .long ((ρ.2.1.1.2 a0.toNatClampNeg) &&& (ρ.2.1.1.2 a1.toNatClampNeg))), (0, .ref (q 0)), (1, .int a0), (2, .int a1), (3, .int a2)]) hx hb d_R_meetOf_105 hl (k := 1) rfl rfl (by decide) rfl (fun ls hl => ?_)
                      refine lv_goto (tgt := 55) hx hb d_R_meetOf_108 (by decide) ?_
                      exact ih (x55_9 + 1) 0 ls (lv_sub hl [0, 1, 2, 3, 4, 5, 6, 7, 8] rfl) hL55
                    · have hL55 := zi_n c_66 hL55
                      refine lv_lload hx hb d_R_meetOf_69 (lv_at hl 4 rfl) ?_
                      refine lv_iload hx hb d_R_meetOf_71 (lv_at hl 0 rfl) ?_
                      refine lv_lshr (v := (zr_l ((ρ.2.1.1.2 a0.toNatClampNeg) &&& (ρ.2.1.1.2 a1.toNatClampNeg)) x55_9)) hx hb d_R_meetOf_73 rfl ?_
                      refine lv_lconst (v := 1) hx hb d_R_meetOf_74 (by decide) ?_
                      refine lv_land hx hb d_R_meetOf_75 ?_
                      refine lv_lconst (v := 0) hx hb d_R_meetOf_76 (by decide) ?_
                      refine W.lcmp hx hb d_R_meetOf_77 ?_
                      refine lv_if_eq (tgt := 98) hx hb d_R_meetOf_78 (by decide) (fun c_78 => ?_) (fun c_78 => ?_)
                      · have hL55 := zi_p c_78 hL55
                        refine lv_iconst (v := 1) hx hb d_R_meetOf_98 (by decide) ?_
                        refine lv_goto (tgt := 103) hx hb d_R_meetOf_99 (by decide) ?_
                        refine lv_istore (lv' := [(8, .int 1), (9, .int x55_9), (7, .int x21_7), (6, .int x21_6), (4, .long ((ρ.2.1.1.2 a0.toNatClampNeg) &&& (ρ.2.1.1.2 a1.toNatClampNeg))), (0, .ref (q 0)), (1, .int a0), (2, .int a1), (3, .int a2)]) hx hb d_R_meetOf_103 hl (by decide) rfl (fun ls hl => ?_)
                        refine lv_iinc (v := (x55_9 + 1)) (lv' := [(9, .int (x55_9 + 1)), (8, .int 1), (7, .int x21_7), (6, .int x21_6), (4, .long ((ρ.2.1.1.2 a0.toNatClampNeg) &&& (ρ.2.1.1.2 a1.toNatClampNeg))), (0, .ref (q 0)), (1, .int a0), (2, .int a1), (3, .int a2)]) hx hb d_R_meetOf_105 hl (k := 1) rfl rfl (by decide) rfl (fun ls hl => ?_)
                        refine lv_goto (tgt := 55) hx hb d_R_meetOf_108 (by decide) ?_
                        exact ih (x55_9 + 1) 1 ls (lv_sub hl [0, 1, 2, 3, 4, 5, 6, 7, 8] rfl) hL55
                      · have hL55 := zi_n c_78 hL55
                        refine lv_aload_n hx hb d_R_meetOf_81 rfl (lv_at hl 5 rfl) ?_
                        refine va_get (D := D) (ci := 4) (v := .ref (q 14)) (C := R_R) (T := T_R) (N := 23) hx hb hts in_R hown hK hP (0) rfl rfl 14 (by decide) (hts _ k_442) (fun _ h9 => h9) rfl d_R_meetOf_82 ?_
                        refine lv_iload hx hb d_R_meetOf_85 (lv_at hl 0 rfl) ?_
                        by_cases ck_87 : zin x55_9 60
                        · have hL55 := zi_p ck_87 hL55
                          refine va_lald hx hb hK hP 14 13 rfl rfl ck_87 d_R_meetOf_87 ?_
                          refine lv_iload hx hb d_R_meetOf_88 (lv_at hl 2 rfl) ?_
                          refine lv_lshr (v := (zr_l (ρ.2.1.1.2 x55_9.toNatClampNeg) x21_7)) hx hb d_R_meetOf_90 rfl ?_
                          refine lv_lconst (v := 1) hx hb d_R_meetOf_91 (by decide) ?_
                          refine lv_land hx hb d_R_meetOf_92 ?_
                          refine lv_lconst (v := 0) hx hb d_R_meetOf_93 (by decide) ?_
                          refine W.lcmp hx hb d_R_meetOf_94 ?_
                          refine lv_if_ne (tgt := 102) hx hb d_R_meetOf_95 (by decide) (fun c_95 => ?_) (fun c_95 => ?_)
                          · have hL55 := zi_n c_95 hL55
                            refine lv_iconst (v := 0) hx hb d_R_meetOf_102 (by decide) ?_
                            refine lv_istore (lv' := [(8, .int 0), (9, .int x55_9), (7, .int x21_7), (6, .int x21_6), (4, .long ((ρ.2.1.1.2 a0.toNatClampNeg) &&& (ρ.2.1.1.2 a1.toNatClampNeg))), (0, .ref (q 0)), (1, .int a0), (2, .int a1), (3, .int a2)]) hx hb d_R_meetOf_103 hl (by decide) rfl (fun ls hl => ?_)
                            refine lv_iinc (v := (x55_9 + 1)) (lv' := [(9, .int (x55_9 + 1)), (8, .int 0), (7, .int x21_7), (6, .int x21_6), (4, .long ((ρ.2.1.1.2 a0.toNatClampNeg) &&& (ρ.2.1.1.2 a1.toNatClampNeg))), (0, .ref (q 0)), (1, .int a0), (2, .int a1), (3, .int a2)]) hx hb d_R_meetOf_105 hl (k := 1) rfl rfl (by decide) rfl (fun ls hl => ?_)
                            refine lv_goto (tgt := 55) hx hb d_R_meetOf_108 (by decide) ?_
                            exact ih (x55_9 + 1) 0 ls (lv_sub hl [0, 1, 2, 3, 4, 5, 6, 7, 8] rfl) hL55
                          · have hL55 := zi_p c_95 hL55
                            refine lv_iconst (v := 1) hx hb d_R_meetOf_98 (by decide) ?_
                            refine lv_goto (tgt := 103) hx hb d_R_meetOf_99 (by decide) ?_
                            refine lv_istore (lv' := [(8, .int 1), (9, .int x55_9), (7, .int x21_7), (6, .int x21_6), (4, .long ((ρ.2.1.1.2 a0.toNatClampNeg) &&& (ρ.2.1.1.2 a1.toNatClampNeg))), (0, .ref (q 0)), (1, .int a0), (2, .int a1), (3, .int a2)]) hx hb d_R_meetOf_103 hl (by decide) rfl (fun ls hl => ?_)
                            refine lv_iinc (v := (x55_9 + 1)) (lv' := [(9, .int (x55_9 + 1)), (8, .int 1), (7, .int x21_7), (6, .int x21_6), (4, .long ((ρ.2.1.1.2 a0.toNatClampNeg) &&& (ρ.2.1.1.2 a1.toNatClampNeg))), (0, .ref (q 0)), (1, .int a0), (2, .int a1), (3, .int a2)]) hx hb d_R_meetOf_105 hl (k := 1) rfl rfl (by decide) rfl (fun ls hl => ?_)
                            refine lv_goto (tgt := 55) hx hb d_R_meetOf_108 (by decide) ?_
                            exact ih (x55_9 + 1) 1 ls (lv_sub hl [0, 1, 2, 3, 4, 5, 6, 7, 8] rfl) hL55
                        · exact absurd (zi_n ck_87 hL55) (by simp)
              exact hloop55 zfuel (x21_7 + 1) j47_s0 ls (lv_sub hl [0, 1, 2, 3, 4, 5, 6, 7, 8] rfl) hL55
            refine lv_if_ne (tgt := 46) hx hb d_R_meetOf_39 (by decide) (fun c_39 => ?_) (fun c_39 => ?_)
            · have hL21 := zi_n c_39 hL21
              refine lv_iconst (v := 0) hx hb d_R_meetOf_46 (by decide) ?_
              exact hj47 0 ls (lv_sub hl [0, 1, 2, 3, 4, 5, 6] rfl) hL21
            · have hL21 := zi_p c_39 hL21
              refine lv_iconst (v := 1) hx hb d_R_meetOf_42 (by decide) ?_
              refine lv_goto (tgt := 47) hx hb d_R_meetOf_43 (by decide) ?_
              exact hj47 1 ls (lv_sub hl [0, 1, 2, 3, 4, 5, 6] rfl) hL21
      exact hloop21 zfuel 0 a2 ls (lv_sub hl [0, 1, 2, 3, 4, 5, 6] rfl) hL21
    · exact absurd (zi_n ck_11 hres) (by simp)
  · exact absurd (zi_n ck_5 hres) (by simp)
abbrev qd_R_mergeOptions (D : va_G) (tys : List (ClassId × FieldType)) (q : Nat → Nat) (cR : Nat → ClassId) (ρ : RSt) (a0 : Int32) (a1 : Int32) (a2 : Int32) (v : RSt) (A : Nat → Prop) : Array Value → State → Outcome → State → Prop := va_Qv (fun _ : Unit => True) (fun _ t => zwd D (zRt cR) (A) (zR q cR v) t) (A)

def J_R_mergeOptions_124 (ρ : RSt) (a1 : Int32) (a2 : Int32) (j23_s0 : Int32) (j65_s0 : Int32) (j90_s0 : Int64) (j124_s0 : Int64) : Option (RSt) :=
  if ((upd ρ.1.2.1.1.2 ((65 : Int32).toNatClampNeg) (vp_nar .boolean j65_s0)) ((65 : Int32).toNatClampNeg)) = 0 then
    some (((((ρ.1.1.1.1.1, ρ.1.1.1.1.2), ρ.1.1.1.2), ((ρ.1.1.2.1.1, ρ.1.1.2.1.2), ρ.1.1.2.2)), (((ρ.1.2.1.1.1, (upd ρ.1.2.1.1.2 ((65 : Int32).toNatClampNeg) (vp_nar .boolean j65_s0))), (vp_updL ρ.1.2.1.2 ((65 : Int32).toNatClampNeg) 0)), ((ρ.1.2.2.1.1, ρ.1.2.2.1.2), ρ.1.2.2.2))), ((((ρ.2.1.1.1.1, ρ.2.1.1.1.2), ρ.2.1.1.2), ((ρ.2.1.2.1.1, ρ.2.1.2.1.2), ρ.2.1.2.2)), (((ρ.2.2.1.1.1, ρ.2.2.1.1.2), ρ.2.2.1.2), (ρ.2.2.2.1, ρ.2.2.2.2))))
  else
    if j23_s0 = 0 then
      some (((((ρ.1.1.1.1.1, ρ.1.1.1.1.2), ρ.1.1.1.2), ((ρ.1.1.2.1.1, ρ.1.1.2.1.2), ρ.1.1.2.2)), (((ρ.1.2.1.1.1, (upd ρ.1.2.1.1.2 ((65 : Int32).toNatClampNeg) (vp_nar .boolean j65_s0))), (vp_updL ρ.1.2.1.2 ((65 : Int32).toNatClampNeg) j90_s0)), ((ρ.1.2.2.1.1, ρ.1.2.2.1.2), ρ.1.2.2.2))), ((((ρ.2.1.1.1.1, ρ.2.1.1.1.2), ρ.2.1.1.2), ((ρ.2.1.2.1.1, ρ.2.1.2.1.2), ρ.2.1.2.2)), (((ρ.2.2.1.1.1, ρ.2.2.1.1.2), ρ.2.2.1.2), (ρ.2.2.2.1, ρ.2.2.2.2))))
    else
      some (((((ρ.1.1.1.1.1, ρ.1.1.1.1.2), ρ.1.1.1.2), ((ρ.1.1.2.1.1, ρ.1.1.2.1.2), ρ.1.1.2.2)), (((ρ.1.2.1.1.1, (upd ρ.1.2.1.1.2 ((65 : Int32).toNatClampNeg) (vp_nar .boolean j65_s0))), (vp_updL ρ.1.2.1.2 ((65 : Int32).toNatClampNeg) (((ρ.1.2.1.2 a1.toNatClampNeg) + (ρ.1.2.1.2 a2.toNatClampNeg)) - j124_s0))), ((ρ.1.2.2.1.1, ρ.1.2.2.1.2), ρ.1.2.2.2))), ((((ρ.2.1.1.1.1, ρ.2.1.1.1.2), ρ.2.1.1.2), ((ρ.2.1.2.1.1, ρ.2.1.2.1.2), ρ.2.1.2.2)), (((ρ.2.2.1.1.1, ρ.2.2.1.1.2), ρ.2.2.1.2), (ρ.2.2.2.1, ρ.2.2.2.2))))
def J_R_mergeOptions_90 (ρ : RSt) (a0 : Int32) (a1 : Int32) (a2 : Int32) (j23_s0 : Int32) (j65_s0 : Int32) (j90_s0 : Int64) : Option (RSt) :=
  if zin a1 67 then
    if zin a2 67 then
      if zin a0 67 then
        if ((upd ρ.1.2.1.1.2 ((65 : Int32).toNatClampNeg) (vp_nar .boolean j65_s0)) a0.toNatClampNeg) = 0 then
          J_R_mergeOptions_124 ρ a1 a2 j23_s0 j65_s0 j90_s0 0
        else
          if zin a0 67 then
            J_R_mergeOptions_124 ρ a1 a2 j23_s0 j65_s0 j90_s0 (ρ.1.2.1.2 a0.toNatClampNeg)
          else
            none
      else
        none
    else
      none
  else
    none
def J_R_mergeOptions_65_3 (ρ : RSt) (a0 : Int32) (a1 : Int32) (a2 : Int32) (j23_s0 : Int32) (j65_s0 : Int32) : Option (RSt) :=
  if zin a1 67 then
    if ((upd ρ.1.2.1.1.2 ((65 : Int32).toNatClampNeg) (vp_nar .boolean j65_s0)) a1.toNatClampNeg) = 0 then
      if zin a2 67 then
        J_R_mergeOptions_90 ρ a0 a1 a2 j23_s0 j65_s0 (ρ.1.2.1.2 a2.toNatClampNeg)
      else
        none
    else
      if zin a1 67 then
        J_R_mergeOptions_90 ρ a0 a1 a2 j23_s0 j65_s0 (ρ.1.2.1.2 a1.toNatClampNeg)
      else
        none
  else
    none
def J_R_mergeOptions_23_2 (ρ : RSt) (a0 : Int32) (a1 : Int32) (a2 : Int32) (j23_s0 : Int32) : Option (RSt) :=
  if j23_s0 = 0 then
    if zin a1 67 then
      if zin a2 67 then
        if (ρ.1.2.1.1.2 a1.toNatClampNeg) = (ρ.1.2.1.1.2 a2.toNatClampNeg) then
          J_R_mergeOptions_65_3 ρ a0 a1 a2 j23_s0 0
        else
          if zin a0 67 then
            if (ρ.1.2.1.1.2 a0.toNatClampNeg) = 0 then
              J_R_mergeOptions_65_3 ρ a0 a1 a2 j23_s0 1
            else
              J_R_mergeOptions_65_3 ρ a0 a1 a2 j23_s0 0
          else
            none
      else
        none
    else
      none
  else
    J_R_mergeOptions_65_3 ρ a0 a1 a2 j23_s0 1
def f_R_mergeOptions (ρ : RSt) (a0 : Int32) (a1 : Int32) (a2 : Int32) : Option (RSt) :=
  if zin a1 67 then
    if (ρ.1.2.1.1.2 a1.toNatClampNeg) = 0 then
      J_R_mergeOptions_23_2 ρ a0 a1 a2 0
    else
      if zin a2 67 then
        if (ρ.1.2.1.1.2 a2.toNatClampNeg) = 0 then
          J_R_mergeOptions_23_2 ρ a0 a1 a2 0
        else
          J_R_mergeOptions_23_2 ρ a0 a1 a2 1
      else
        none
  else
    none
set_option maxHeartbeats 4000000 in
set_option maxRecDepth 100000 in
theorem c_R_mergeOptions (l : Launch) (D : va_G) (tys : List (ClassId × FieldType)) (sz : Nat) (q : Nat → Nat) (cR : Nat → ClassId) (ρ : RSt) (a0 : Int32) (a1 : Int32) (a2 : Int32) (v : RSt) (hres : f_R_mergeOptions ρ a0 a1 a2 = some v) : Met l y_R_mergeOptions w_R_mergeOptions ({ frames := 0, cells := 0, slots := 0, locals := 0 } : Room) (va_Pc ([.ref (q 0), .int a0, .int a1, .int a2]) (zrw D (zRt cR) sz (zR q cR ρ))) (qd_R_mergeOptions D tys q cR ρ a0 a1 a2 v (va_A (zR q cR ρ) sz)) 0 0 (va_A (zR q cR ρ) sz) := by
  refine Met.ofW (cc := b_R_mergeOptions) (maxL := 9) (ret := none) (by decide) rfl ?_
  intro p e s m args below meth c s₁ B hml hv
  obtain ⟨rfl, hsz, hP, hK, hD0, hN⟩ := hv
  have hx := B.exec
  have hb := B.bytes
  have hr := B.returns
  have hts : ∀ w ∈ zt, w.before ([.ref (q 0), .int a0, .int a1, .int a2].toArray) s = true := fun w h => atoms_spec (ws := w_R_mergeOptions) B.pre w (List.mem_cons_of_mem _ h)
  have hown : s.vm.findClass R_R = some m.cls := findClass_of_methodNamed B.named
  have hlocks := B.notSynchronized
  subst hsz
  have hD := hD0.self (sz := s.heap.size)
  generalize hAe : va_A (zR q cR ρ) s.heap.size = A at hD ⊢
  have hA : ∀ q : Nat, s.heap.size ≤ q → A q := fun q h => by rw [← hAe]; exact Or.inr h
  have hS : va_S A s.heap s.heap [] := va_S.rf
  have hP : va_P D vwCl (zR q cR ρ) s.heap := hP
  have hD : va_D A (zR q cR ρ) := hD
  have hl := lv_entry ([.ref (q 0), .int a0, .int a1, .int a2]) (n := 9) (Nat.le_of_ble_eq_true rfl)
  rw [lg_entry_eq]
  generalize (lg_sl ([.ref (q 0), .int a0, .int a1, .int a2]) ++ List.replicate (9 - (lg_sl ([.ref (q 0), .int a0, .int a1, .int a2])).length) Slot.unset).toArray = ls at hl ⊢
  have hl : lv_has ls 9 [(0, .ref (q 0)), (1, .int a0), (2, .int a1), (3, .int a2)] := hl
  unfold f_R_mergeOptions at hres
  refine lv_aload_n hx hb d_R_mergeOptions_0 rfl (lv_at hl 0 rfl) ?_
  refine va_get (D := D) (ci := 4) (v := .ref (q 8)) (C := R_R) (T := T_R) (N := 23) hx hb hts in_R hown hK hP (0) rfl rfl 7 (by decide) (hts _ k_435) (fun _ h9 => h9) rfl d_R_mergeOptions_1 ?_
  refine lv_iload_n hx hb d_R_mergeOptions_4 rfl (lv_at hl 2 rfl) ?_
  by_cases ck_5 : zin a1 67
  · have hres := zi_p ck_5 hres
    refine va_zald hx hb hK hP 8 7 rfl rfl ck_5 d_R_mergeOptions_5 ?_
    have hj23 : ∀ (j23_s0 : Int32) (H : Heap) (locs : List Loc), va_P D vwCl (zR q cR ρ) H → va_D A (zR q cR ρ) → va_S A s.heap H locs → ∀ (ls : Array Slot), lv_has ls 9 [(0, .ref (q 0)), (1, .int a0), (2, .int a1), (3, .int a2)] → J_R_mergeOptions_23_2 ρ a0 a1 a2 j23_s0 = some v → W p l e (headSpec w_R_mergeOptions ({ frames := 0, cells := 0, slots := 0, locals := 0 } : Room)).room s m ([.ref (q 0), .int a0, .int a1, .int a2].toArray) below meth c H locs 0 0 (MQ below (qd_R_mergeOptions D tys q cR ρ a0 a1 a2 v A) ([.ref (q 0), .int a0, .int a1, .int a2].toArray) s 0 0 A) (F0 m 23 ls [.int j23_s0]) := by
      intro j23_s0 H locs hP hD hS ls hl hres
      unfold J_R_mergeOptions_23_2 at hres
      refine lv_istore (lv' := [(4, .int j23_s0), (0, .ref (q 0)), (1, .int a0), (2, .int a1), (3, .int a2)]) hx hb d_R_mergeOptions_23 hl (by decide) rfl (fun ls hl => ?_)
      refine lv_aload_n hx hb d_R_mergeOptions_25 rfl (lv_at hl 1 rfl) ?_
      refine va_get (D := D) (ci := 4) (v := .ref (q 8)) (C := R_R) (T := T_R) (N := 23) hx hb hts in_R hown hK hP (0) rfl rfl 7 (by decide) (hts _ k_435) (fun _ h9 => h9) rfl d_R_mergeOptions_26 ?_
      refine lv_bipush (v := 65) hx hb d_R_mergeOptions_29 (by decide) ?_
      refine lv_iload hx hb d_R_mergeOptions_31 (lv_at hl 0 rfl) ?_
      have hj65 : ∀ (j65_s0 : Int32) (H : Heap) (locs : List Loc), va_P D vwCl (zR q cR ρ) H → va_D A (zR q cR ρ) → va_S A s.heap H locs → ∀ (ls : Array Slot), lv_has ls 9 [(4, .int j23_s0), (0, .ref (q 0)), (1, .int a0), (2, .int a1), (3, .int a2)] → J_R_mergeOptions_65_3 ρ a0 a1 a2 j23_s0 j65_s0 = some v → W p l e (headSpec w_R_mergeOptions ({ frames := 0, cells := 0, slots := 0, locals := 0 } : Room)).room s m ([.ref (q 0), .int a0, .int a1, .int a2].toArray) below meth c H locs 0 0 (MQ below (qd_R_mergeOptions D tys q cR ρ a0 a1 a2 v A) ([.ref (q 0), .int a0, .int a1, .int a2].toArray) s 0 0 A) (F0 m 65 ls [.int j65_s0, .int 65, .ref (q 8)]) := by
        intro j65_s0 H locs hP hD hS ls hl hres
        unfold J_R_mergeOptions_65_3 at hres
        refine va_zast hx hb hK hP hD hS 8 7 rfl rfl (show zin 65 67 by decide) d_R_mergeOptions_65 (fun H locs hP hD hS => ?_)
        have hP : va_P D vwCl ([(q 0, .inr (4, [.ref (q 1), .ref (q 2), .ref (q 3), .ref (q 4), .ref (q 5), .ref (q 6), .ref (q 7), .ref (q 8), .ref (q 9), .ref (q 10), .ref (q 11), .int ρ.1.2.2.2, .ref (q 12), .ref (q 13), .ref (q 14), .ref (q 15), .ref (q 16), .ref (q 17), .int ρ.2.2.1.1.1, .ref (q 18), .ref (q 19), .ref (q 20), .ref (q 21)])), (q 1, .inl (cR 1, 67, .inr (.inl ρ.1.1.1.1.1))), (q 2, .inl (cR 2, 67, .inl ρ.1.1.1.1.2)), (q 3, .inl (cR 3, 67, .inl ρ.1.1.1.2)), (q 4, .inl (cR 4, 67, .inl ρ.1.1.2.1.1)), (q 5, .inl (cR 5, 67, .inr (.inl ρ.1.1.2.1.2))), (q 6, .inl (cR 6, 67, .inl ρ.1.1.2.2)), (q 7, .inl (cR 7, 536, .inl ρ.1.2.1.1.1)), (q 8, .inl (cR 8, 67, .inl (upd ρ.1.2.1.1.2 ((65 : Int32).toNatClampNeg) (vp_nar .boolean j65_s0)))), (q 9, .inl (cR 9, 67, .inr (.inl ρ.1.2.1.2))), (q 10, .inl (cR 10, 67, .inr (.inl ρ.1.2.2.1.1))), (q 11, .inl (cR 11, 67, .inl ρ.1.2.2.1.2)), (q 12, .inl (cR 12, 60, .inl ρ.2.1.1.1.1)), (q 13, .inl (cR 13, 60, .inl ρ.2.1.1.1.2)), (q 14, .inl (cR 14, 60, .inr (.inl ρ.2.1.1.2))), (q 15, .inl (cR 15, 60, .inr (.inl ρ.2.1.2.1.1))), (q 16, .inl (cR 16, 4, .inl ρ.2.1.2.1.2)), (q 17, .inl (cR 17, 4, .inl ρ.2.1.2.2)), (q 18, .inl (cR 18, 100, .inl ρ.2.2.1.1.2)), (q 19, .inl (cR 19, 5, .inl ρ.2.2.1.2)), (q 20, .inl (cR 20, 5, .inl ρ.2.2.2.1)), (q 21, .inl (cR 21, 5, .inl ρ.2.2.2.2))]) H := hP
        have hD : va_D A ([(q 0, .inr (4, [.ref (q 1), .ref (q 2), .ref (q 3), .ref (q 4), .ref (q 5), .ref (q 6), .ref (q 7), .ref (q 8), .ref (q 9), .ref (q 10), .ref (q 11), .int ρ.1.2.2.2, .ref (q 12), .ref (q 13), .ref (q 14), .ref (q 15), .ref (q 16), .ref (q 17), .int ρ.2.2.1.1.1, .ref (q 18), .ref (q 19), .ref (q 20), .ref (q 21)])), (q 1, .inl (cR 1, 67, .inr (.inl ρ.1.1.1.1.1))), (q 2, .inl (cR 2, 67, .inl ρ.1.1.1.1.2)), (q 3, .inl (cR 3, 67, .inl ρ.1.1.1.2)), (q 4, .inl (cR 4, 67, .inl ρ.1.1.2.1.1)), (q 5, .inl (cR 5, 67, .inr (.inl ρ.1.1.2.1.2))), (q 6, .inl (cR 6, 67, .inl ρ.1.1.2.2)), (q 7, .inl (cR 7, 536, .inl ρ.1.2.1.1.1)), (q 8, .inl (cR 8, 67, .inl (upd ρ.1.2.1.1.2 ((65 : Int32).toNatClampNeg) (vp_nar .boolean j65_s0)))), (q 9, .inl (cR 9, 67, .inr (.inl ρ.1.2.1.2))), (q 10, .inl (cR 10, 67, .inr (.inl ρ.1.2.2.1.1))), (q 11, .inl (cR 11, 67, .inl ρ.1.2.2.1.2)), (q 12, .inl (cR 12, 60, .inl ρ.2.1.1.1.1)), (q 13, .inl (cR 13, 60, .inl ρ.2.1.1.1.2)), (q 14, .inl (cR 14, 60, .inr (.inl ρ.2.1.1.2))), (q 15, .inl (cR 15, 60, .inr (.inl ρ.2.1.2.1.1))), (q 16, .inl (cR 16, 4, .inl ρ.2.1.2.1.2)), (q 17, .inl (cR 17, 4, .inl ρ.2.1.2.2)), (q 18, .inl (cR 18, 100, .inl ρ.2.2.1.1.2)), (q 19, .inl (cR 19, 5, .inl ρ.2.2.1.2)), (q 20, .inl (cR 20, 5, .inl ρ.2.2.2.1)), (q 21, .inl (cR 21, 5, .inl ρ.2.2.2.2))]) := hD
        refine lv_aload_n hx hb d_R_mergeOptions_66 rfl (lv_at hl 1 rfl) ?_
        refine va_get (D := D) (ci := 4) (v := .ref (q 8)) (C := R_R) (T := T_R) (N := 23) hx hb hts in_R hown hK hP (0) rfl rfl 7 (by decide) (hts _ k_435) (fun _ h9 => h9) rfl d_R_mergeOptions_67 ?_
        refine lv_iload_n hx hb d_R_mergeOptions_70 rfl (lv_at hl 3 rfl) ?_
        by_cases ck_71 : zin a1 67
        · have hres := zi_p ck_71 hres
          refine va_zald hx hb hK hP 8 7 rfl rfl ck_71 d_R_mergeOptions_71 ?_
          have hj90 : ∀ (j90_s0 : Int64) (H : Heap) (locs : List Loc), va_P D vwCl ([(q 0, .inr (4, [.ref (q 1), .ref (q 2), .ref (q 3), .ref (q 4), .ref (q 5), .ref (q 6), .ref (q 7), .ref (q 8), .ref (q 9), .ref (q 10), .ref (q 11), .int ρ.1.2.2.2, .ref (q 12), .ref (q 13), .ref (q 14), .ref (q 15), .ref (q 16), .ref (q 17), .int ρ.2.2.1.1.1, .ref (q 18), .ref (q 19), .ref (q 20), .ref (q 21)])), (q 1, .inl (cR 1, 67, .inr (.inl ρ.1.1.1.1.1))), (q 2, .inl (cR 2, 67, .inl ρ.1.1.1.1.2)), (q 3, .inl (cR 3, 67, .inl ρ.1.1.1.2)), (q 4, .inl (cR 4, 67, .inl ρ.1.1.2.1.1)), (q 5, .inl (cR 5, 67, .inr (.inl ρ.1.1.2.1.2))), (q 6, .inl (cR 6, 67, .inl ρ.1.1.2.2)), (q 7, .inl (cR 7, 536, .inl ρ.1.2.1.1.1)), (q 8, .inl (cR 8, 67, .inl (upd ρ.1.2.1.1.2 ((65 : Int32).toNatClampNeg) (vp_nar .boolean j65_s0)))), (q 9, .inl (cR 9, 67, .inr (.inl ρ.1.2.1.2))), (q 10, .inl (cR 10, 67, .inr (.inl ρ.1.2.2.1.1))), (q 11, .inl (cR 11, 67, .inl ρ.1.2.2.1.2)), (q 12, .inl (cR 12, 60, .inl ρ.2.1.1.1.1)), (q 13, .inl (cR 13, 60, .inl ρ.2.1.1.1.2)), (q 14, .inl (cR 14, 60, .inr (.inl ρ.2.1.1.2))), (q 15, .inl (cR 15, 60, .inr (.inl ρ.2.1.2.1.1))), (q 16, .inl (cR 16, 4, .inl ρ.2.1.2.1.2)), (q 17, .inl (cR 17, 4, .inl ρ.2.1.2.2)), (q 18, .inl (cR 18, 100, .inl ρ.2.2.1.1.2)), (q 19, .inl (cR 19, 5, .inl ρ.2.2.1.2)), (q 20, .inl (cR 20, 5, .inl ρ.2.2.2.1)), (q 21, .inl (cR 21, 5, .inl ρ.2.2.2.2))]) H → va_D A ([(q 0, .inr (4, [.ref (q 1), .ref (q 2), .ref (q 3), .ref (q 4), .ref (q 5), .ref (q 6), .ref (q 7), .ref (q 8), .ref (q 9), .ref (q 10), .ref (q 11), .int ρ.1.2.2.2, .ref (q 12), .ref (q 13), .ref (q 14), .ref (q 15), .ref (q 16), .ref (q 17), .int ρ.2.2.1.1.1, .ref (q 18), .ref (q 19), .ref (q 20), .ref (q 21)])), (q 1, .inl (cR 1, 67, .inr (.inl ρ.1.1.1.1.1))), (q 2, .inl (cR 2, 67, .inl ρ.1.1.1.1.2)), (q 3, .inl (cR 3, 67, .inl ρ.1.1.1.2)), (q 4, .inl (cR 4, 67, .inl ρ.1.1.2.1.1)), (q 5, .inl (cR 5, 67, .inr (.inl ρ.1.1.2.1.2))), (q 6, .inl (cR 6, 67, .inl ρ.1.1.2.2)), (q 7, .inl (cR 7, 536, .inl ρ.1.2.1.1.1)), (q 8, .inl (cR 8, 67, .inl (upd ρ.1.2.1.1.2 ((65 : Int32).toNatClampNeg) (vp_nar .boolean j65_s0)))), (q 9, .inl (cR 9, 67, .inr (.inl ρ.1.2.1.2))), (q 10, .inl (cR 10, 67, .inr (.inl ρ.1.2.2.1.1))), (q 11, .inl (cR 11, 67, .inl ρ.1.2.2.1.2)), (q 12, .inl (cR 12, 60, .inl ρ.2.1.1.1.1)), (q 13, .inl (cR 13, 60, .inl ρ.2.1.1.1.2)), (q 14, .inl (cR 14, 60, .inr (.inl ρ.2.1.1.2))), (q 15, .inl (cR 15, 60, .inr (.inl ρ.2.1.2.1.1))), (q 16, .inl (cR 16, 4, .inl ρ.2.1.2.1.2)), (q 17, .inl (cR 17, 4, .inl ρ.2.1.2.2)), (q 18, .inl (cR 18, 100, .inl ρ.2.2.1.1.2)), (q 19, .inl (cR 19, 5, .inl ρ.2.2.1.2)), (q 20, .inl (cR 20, 5, .inl ρ.2.2.2.1)), (q 21, .inl (cR 21, 5, .inl ρ.2.2.2.2))]) → va_S A s.heap H locs → ∀ (ls : Array Slot), lv_has ls 9 [(4, .int j23_s0), (0, .ref (q 0)), (1, .int a0), (2, .int a1), (3, .int a2)] → J_R_mergeOptions_90 ρ a0 a1 a2 j23_s0 j65_s0 j90_s0 = some v → W p l e (headSpec w_R_mergeOptions ({ frames := 0, cells := 0, slots := 0, locals := 0 } : Room)).room s m ([.ref (q 0), .int a0, .int a1, .int a2].toArray) below meth c H locs 0 0 (MQ below (qd_R_mergeOptions D tys q cR ρ a0 a1 a2 v A) ([.ref (q 0), .int a0, .int a1, .int a2].toArray) s 0 0 A) (F0 m 90 ls [.long j90_s0]) := by
            intro j90_s0 H locs hP hD hS ls hl hres
            unfold J_R_mergeOptions_90 at hres
            refine lv_lstore (lv' := [(5, .long j90_s0), (4, .int j23_s0), (0, .ref (q 0)), (1, .int a0), (2, .int a1), (3, .int a2)]) hx hb d_R_mergeOptions_90 hl (by decide) rfl (fun ls hl => ?_)
            refine lv_aload_n hx hb d_R_mergeOptions_92 rfl (lv_at hl 2 rfl) ?_
            refine va_get (D := D) (ci := 4) (v := .ref (q 9)) (C := R_R) (T := T_R) (N := 23) hx hb hts in_R hown hK hP (0) rfl rfl 8 (by decide) (hts _ k_436) (fun _ h9 => h9) rfl d_R_mergeOptions_93 ?_
            refine lv_iload_n hx hb d_R_mergeOptions_96 rfl (lv_at hl 4 rfl) ?_
            by_cases ck_97 : zin a1 67
            · have hres := zi_p ck_97 hres
              refine va_lald hx hb hK hP 9 8 rfl rfl ck_97 d_R_mergeOptions_97 ?_
              refine lv_aload_n hx hb d_R_mergeOptions_98 rfl (lv_at hl 2 rfl) ?_
              refine va_get (D := D) (ci := 4) (v := .ref (q 9)) (C := R_R) (T := T_R) (N := 23) hx hb hts in_R hown hK hP (0) rfl rfl 8 (by decide) (hts _ k_436) (fun _ h9 => h9) rfl d_R_mergeOptions_99 ?_
              refine lv_iload_n hx hb d_R_mergeOptions_102 rfl (lv_at hl 5 rfl) ?_
              by_cases ck_103 : zin a2 67
              · have hres := zi_p ck_103 hres
                refine va_lald hx hb hK hP 9 8 rfl rfl ck_103 d_R_mergeOptions_103 ?_
                refine lv_ladd hx hb d_R_mergeOptions_104 ?_
                refine lv_aload_n hx hb d_R_mergeOptions_105 rfl (lv_at hl 2 rfl) ?_
                refine va_get (D := D) (ci := 4) (v := .ref (q 8)) (C := R_R) (T := T_R) (N := 23) hx hb hts in_R hown hK hP (0) rfl rfl 7 (by decide) (hts _ k_435) (fun _ h9 => h9) rfl d_R_mergeOptions_106 ?_
                refine lv_iload_n hx hb d_R_mergeOptions_109 rfl (lv_at hl 3 rfl) ?_
                by_cases ck_110 : zin a0 67
                · have hres := zi_p ck_110 hres
                  refine va_zald hx hb hK hP 8 7 rfl rfl ck_110 d_R_mergeOptions_110 ?_
                  have hj124 : ∀ (j124_s0 : Int64) (H : Heap) (locs : List Loc), va_P D vwCl ([(q 0, .inr (4, [.ref (q 1), .ref (q 2), .ref (q 3), .ref (q 4), .ref (q 5), .ref (q 6), .ref (q 7), .ref (q 8), .ref (q 9), .ref (q 10), .ref (q 11), .int ρ.1.2.2.2, .ref (q 12), .ref (q 13), .ref (q 14), .ref (q 15), .ref (q 16), .ref (q 17), .int ρ.2.2.1.1.1, .ref (q 18), .ref (q 19), .ref (q 20), .ref (q 21)])), (q 1, .inl (cR 1, 67, .inr (.inl ρ.1.1.1.1.1))), (q 2, .inl (cR 2, 67, .inl ρ.1.1.1.1.2)), (q 3, .inl (cR 3, 67, .inl ρ.1.1.1.2)), (q 4, .inl (cR 4, 67, .inl ρ.1.1.2.1.1)), (q 5, .inl (cR 5, 67, .inr (.inl ρ.1.1.2.1.2))), (q 6, .inl (cR 6, 67, .inl ρ.1.1.2.2)), (q 7, .inl (cR 7, 536, .inl ρ.1.2.1.1.1)), (q 8, .inl (cR 8, 67, .inl (upd ρ.1.2.1.1.2 ((65 : Int32).toNatClampNeg) (vp_nar .boolean j65_s0)))), (q 9, .inl (cR 9, 67, .inr (.inl ρ.1.2.1.2))), (q 10, .inl (cR 10, 67, .inr (.inl ρ.1.2.2.1.1))), (q 11, .inl (cR 11, 67, .inl ρ.1.2.2.1.2)), (q 12, .inl (cR 12, 60, .inl ρ.2.1.1.1.1)), (q 13, .inl (cR 13, 60, .inl ρ.2.1.1.1.2)), (q 14, .inl (cR 14, 60, .inr (.inl ρ.2.1.1.2))), (q 15, .inl (cR 15, 60, .inr (.inl ρ.2.1.2.1.1))), (q 16, .inl (cR 16, 4, .inl ρ.2.1.2.1.2)), (q 17, .inl (cR 17, 4, .inl ρ.2.1.2.2)), (q 18, .inl (cR 18, 100, .inl ρ.2.2.1.1.2)), (q 19, .inl (cR 19, 5, .inl ρ.2.2.1.2)), (q 20, .inl (cR 20, 5, .inl ρ.2.2.2.1)), (q 21, .inl (cR 21, 5, .inl ρ.2.2.2.2))]) H → va_D A ([(q 0, .inr (4, [.ref (q 1), .ref (q 2), .ref (q 3), .ref (q 4), .ref (q 5), .ref (q 6), .ref (q 7), .ref (q 8), .ref (q 9), .ref (q 10), .ref (q 11), .int ρ.1.2.2.2, .ref (q 12), .ref (q 13), .ref (q 14), .ref (q 15), .ref (q 16), .ref (q 17), .int ρ.2.2.1.1.1, .ref (q 18), .ref (q 19), .ref (q 20), .ref (q 21)])), (q 1, .inl (cR 1, 67, .inr (.inl ρ.1.1.1.1.1))), (q 2, .inl (cR 2, 67, .inl ρ.1.1.1.1.2)), (q 3, .inl (cR 3, 67, .inl ρ.1.1.1.2)), (q 4, .inl (cR 4, 67, .inl ρ.1.1.2.1.1)), (q 5, .inl (cR 5, 67, .inr (.inl ρ.1.1.2.1.2))), (q 6, .inl (cR 6, 67, .inl ρ.1.1.2.2)), (q 7, .inl (cR 7, 536, .inl ρ.1.2.1.1.1)), (q 8, .inl (cR 8, 67, .inl (upd ρ.1.2.1.1.2 ((65 : Int32).toNatClampNeg) (vp_nar .boolean j65_s0)))), (q 9, .inl (cR 9, 67, .inr (.inl ρ.1.2.1.2))), (q 10, .inl (cR 10, 67, .inr (.inl ρ.1.2.2.1.1))), (q 11, .inl (cR 11, 67, .inl ρ.1.2.2.1.2)), (q 12, .inl (cR 12, 60, .inl ρ.2.1.1.1.1)), (q 13, .inl (cR 13, 60, .inl ρ.2.1.1.1.2)), (q 14, .inl (cR 14, 60, .inr (.inl ρ.2.1.1.2))), (q 15, .inl (cR 15, 60, .inr (.inl ρ.2.1.2.1.1))), (q 16, .inl (cR 16, 4, .inl ρ.2.1.2.1.2)), (q 17, .inl (cR 17, 4, .inl ρ.2.1.2.2)), (q 18, .inl (cR 18, 100, .inl ρ.2.2.1.1.2)), (q 19, .inl (cR 19, 5, .inl ρ.2.2.1.2)), (q 20, .inl (cR 20, 5, .inl ρ.2.2.2.1)), (q 21, .inl (cR 21, 5, .inl ρ.2.2.2.2))]) → va_S A s.heap H locs → ∀ (ls : Array Slot), lv_has ls 9 [(5, .long j90_s0), (4, .int j23_s0), (0, .ref (q 0)), (1, .int a0), (2, .int a1), (3, .int a2)] → J_R_mergeOptions_124 ρ a1 a2 j23_s0 j65_s0 j90_s0 j124_s0 = some v → W p l e (headSpec w_R_mergeOptions ({ frames := 0, cells := 0, slots := 0, locals := 0 } : Room)).room s m ([.ref (q 0), .int a0, .int a1, .int a2].toArray) below meth c H locs 0 0 (MQ below (qd_R_mergeOptions D tys q cR ρ a0 a1 a2 v A) ([.ref (q 0), .int a0, .int a1, .int a2].toArray) s 0 0 A) (F0 m 124 ls [.long j124_s0, .long ((ρ.1.2.1.2 a1.toNatClampNeg) + (ρ.1.2.1.2 a2.toNatClampNeg))]) := by
                    intro j124_s0 H locs hP hD hS ls hl hres
                    unfold J_R_mergeOptions_124 at hres
                    refine lv_lsub hx hb d_R_mergeOptions_124 ?_
                    refine lv_lstore (lv' := [(7, .long (((ρ.1.2.1.2 a1.toNatClampNeg) + (ρ.1.2.1.2 a2.toNatClampNeg)) - j124_s0)), (5, .long j90_s0), (4, .int j23_s0), (0, .ref (q 0)), (1, .int a0), (2, .int a1), (3, .int a2)]) hx hb d_R_mergeOptions_125 hl (by decide) rfl (fun ls hl => ?_)
                    refine lv_aload_n hx hb d_R_mergeOptions_127 rfl (lv_at hl 3 rfl) ?_
                    refine va_get (D := D) (ci := 4) (v := .ref (q 9)) (C := R_R) (T := T_R) (N := 23) hx hb hts in_R hown hK hP (0) rfl rfl 8 (by decide) (hts _ k_436) (fun _ h9 => h9) rfl d_R_mergeOptions_128 ?_
                    refine lv_bipush (v := 65) hx hb d_R_mergeOptions_131 (by decide) ?_
                    refine lv_aload_n hx hb d_R_mergeOptions_133 rfl (lv_at hl 3 rfl) ?_
                    refine va_get (D := D) (ci := 4) (v := .ref (q 8)) (C := R_R) (T := T_R) (N := 23) hx hb hts in_R hown hK hP (0) rfl rfl 7 (by decide) (hts _ k_435) (fun _ h9 => h9) rfl d_R_mergeOptions_134 ?_
                    refine lv_bipush (v := 65) hx hb d_R_mergeOptions_137 (by decide) ?_
                    refine va_zald hx hb hK hP 8 7 rfl rfl (show zin 65 67 by decide) d_R_mergeOptions_139 ?_
                    refine lv_if_ne (tgt := 147) hx hb d_R_mergeOptions_140 (by decide) (fun c_140 => ?_) (fun c_140 => ?_)
                    · have hres := zi_n c_140 hres
                      refine lv_iload hx hb d_R_mergeOptions_147 (lv_at hl 2 rfl) ?_
                      refine lv_if_eq (tgt := 157) hx hb d_R_mergeOptions_149 (by decide) (fun c_149 => ?_) (fun c_149 => ?_)
                      · have hres := zi_p c_149 hres
                        refine lv_lload hx hb d_R_mergeOptions_157 (lv_at hl 1 rfl) ?_
                        refine va_last hx hb hK hP hD hS 9 8 rfl rfl (show zin 65 67 by decide) d_R_mergeOptions_159 (fun H locs hP hD hS => ?_)
                        have hP : va_P D vwCl ([(q 0, .inr (4, [.ref (q 1), .ref (q 2), .ref (q 3), .ref (q 4), .ref (q 5), .ref (q 6), .ref (q 7), .ref (q 8), .ref (q 9), .ref (q 10), .ref (q 11), .int ρ.1.2.2.2, .ref (q 12), .ref (q 13), .ref (q 14), .ref (q 15), .ref (q 16), .ref (q 17), .int ρ.2.2.1.1.1, .ref (q 18), .ref (q 19), .ref (q 20), .ref (q 21)])), (q 1, .inl (cR 1, 67, .inr (.inl ρ.1.1.1.1.1))), (q 2, .inl (cR 2, 67, .inl ρ.1.1.1.1.2)), (q 3, .inl (cR 3, 67, .inl ρ.1.1.1.2)), (q 4, .inl (cR 4, 67, .inl ρ.1.1.2.1.1)), (q 5, .inl (cR 5, 67, .inr (.inl ρ.1.1.2.1.2))), (q 6, .inl (cR 6, 67, .inl ρ.1.1.2.2)), (q 7, .inl (cR 7, 536, .inl ρ.1.2.1.1.1)), (q 8, .inl (cR 8, 67, .inl (upd ρ.1.2.1.1.2 ((65 : Int32).toNatClampNeg) (vp_nar .boolean j65_s0)))), (q 9, .inl (cR 9, 67, .inr (.inl (vp_updL ρ.1.2.1.2 ((65 : Int32).toNatClampNeg) j90_s0)))), (q 10, .inl (cR 10, 67, .inr (.inl ρ.1.2.2.1.1))), (q 11, .inl (cR 11, 67, .inl ρ.1.2.2.1.2)), (q 12, .inl (cR 12, 60, .inl ρ.2.1.1.1.1)), (q 13, .inl (cR 13, 60, .inl ρ.2.1.1.1.2)), (q 14, .inl (cR 14, 60, .inr (.inl ρ.2.1.1.2))), (q 15, .inl (cR 15, 60, .inr (.inl ρ.2.1.2.1.1))), (q 16, .inl (cR 16, 4, .inl ρ.2.1.2.1.2)), (q 17, .inl (cR 17, 4, .inl ρ.2.1.2.2)), (q 18, .inl (cR 18, 100, .inl ρ.2.2.1.1.2)), (q 19, .inl (cR 19, 5, .inl ρ.2.2.1.2)), (q 20, .inl (cR 20, 5, .inl ρ.2.2.2.1)), (q 21, .inl (cR 21, 5, .inl ρ.2.2.2.2))]) H := hP
                        have hD : va_D A ([(q 0, .inr (4, [.ref (q 1), .ref (q 2), .ref (q 3), .ref (q 4), .ref (q 5), .ref (q 6), .ref (q 7), .ref (q 8), .ref (q 9), .ref (q 10), .ref (q 11), .int ρ.1.2.2.2, .ref (q 12), .ref (q 13), .ref (q 14), .ref (q 15), .ref (q 16), .ref (q 17), .int ρ.2.2.1.1.1, .ref (q 18), .ref (q 19), .ref (q 20), .ref (q 21)])), (q 1, .inl (cR 1, 67, .inr (.inl ρ.1.1.1.1.1))), (q 2, .inl (cR 2, 67, .inl ρ.1.1.1.1.2)), (q 3, .inl (cR 3, 67, .inl ρ.1.1.1.2)), (q 4, .inl (cR 4, 67, .inl ρ.1.1.2.1.1)), (q 5, .inl (cR 5, 67, .inr (.inl ρ.1.1.2.1.2))), (q 6, .inl (cR 6, 67, .inl ρ.1.1.2.2)), (q 7, .inl (cR 7, 536, .inl ρ.1.2.1.1.1)), (q 8, .inl (cR 8, 67, .inl (upd ρ.1.2.1.1.2 ((65 : Int32).toNatClampNeg) (vp_nar .boolean j65_s0)))), (q 9, .inl (cR 9, 67, .inr (.inl (vp_updL ρ.1.2.1.2 ((65 : Int32).toNatClampNeg) j90_s0)))), (q 10, .inl (cR 10, 67, .inr (.inl ρ.1.2.2.1.1))), (q 11, .inl (cR 11, 67, .inl ρ.1.2.2.1.2)), (q 12, .inl (cR 12, 60, .inl ρ.2.1.1.1.1)), (q 13, .inl (cR 13, 60, .inl ρ.2.1.1.1.2)), (q 14, .inl (cR 14, 60, .inr (.inl ρ.2.1.1.2))), (q 15, .inl (cR 15, 60, .inr (.inl ρ.2.1.2.1.1))), (q 16, .inl (cR 16, 4, .inl ρ.2.1.2.1.2)), (q 17, .inl (cR 17, 4, .inl ρ.2.1.2.2)), (q 18, .inl (cR 18, 100, .inl ρ.2.2.1.1.2)), (q 19, .inl (cR 19, 5, .inl ρ.2.2.1.2)), (q 20, .inl (cR 20, 5, .inl ρ.2.2.2.1)), (q 21, .inl (cR 21, 5, .inl ρ.2.2.2.2))]) := hD
                        obtain rfl := Option.some.inj hres
                        exact W.vret hx hb hr (fun t ht hW => ⟨⟨(), rfl, trivial, by rw [ht]; exact hP, va_K.moved hW.alike hK, hD⟩, hS.F ht⟩) hS.2.2 d_R_mergeOptions_160
                      · have hres := zi_n c_149 hres
                        refine lv_lload hx hb d_R_mergeOptions_152 (lv_at hl 0 rfl) ?_
                        refine lv_goto (tgt := 159) hx hb d_R_mergeOptions_154 (by decide) ?_
                        refine va_last hx hb hK hP hD hS 9 8 rfl rfl (show zin 65 67 by decide) d_R_mergeOptions_159 (fun H locs hP hD hS => ?_)
                        have hP : va_P D vwCl ([(q 0, .inr (4, [.ref (q 1), .ref (q 2), .ref (q 3), .ref (q 4), .ref (q 5), .ref (q 6), .ref (q 7), .ref (q 8), .ref (q 9), .ref (q 10), .ref (q 11), .int ρ.1.2.2.2, .ref (q 12), .ref (q 13), .ref (q 14), .ref (q 15), .ref (q 16), .ref (q 17), .int ρ.2.2.1.1.1, .ref (q 18), .ref (q 19), .ref (q 20), .ref (q 21)])), (q 1, .inl (cR 1, 67, .inr (.inl ρ.1.1.1.1.1))), (q 2, .inl (cR 2, 67, .inl ρ.1.1.1.1.2)), (q 3, .inl (cR 3, 67, .inl ρ.1.1.1.2)), (q 4, .inl (cR 4, 67, .inl ρ.1.1.2.1.1)), (q 5, .inl (cR 5, 67, .inr (.inl ρ.1.1.2.1.2))), (q 6, .inl (cR 6, 67, .inl ρ.1.1.2.2)), (q 7, .inl (cR 7, 536, .inl ρ.1.2.1.1.1)), (q 8, .inl (cR 8, 67, .inl (upd ρ.1.2.1.1.2 ((65 : Int32).toNatClampNeg) (vp_nar .boolean j65_s0)))), (q 9, .inl (cR 9, 67, .inr (.inl (vp_updL ρ.1.2.1.2 ((65 : Int32).toNatClampNeg) (((ρ.1.2.1.2 a1.toNatClampNeg) + (ρ.1.2.1.2 a2.toNatClampNeg)) - j124_s0))))), (q 10, .inl (cR 10, 67, .inr (.inl ρ.1.2.2.1.1))), (q 11, .inl (cR 11, 67, .inl ρ.1.2.2.1.2)), (q 12, .inl (cR 12, 60, .inl ρ.2.1.1.1.1)), (q 13, .inl (cR 13, 60, .inl ρ.2.1.1.1.2)), (q 14, .inl (cR 14, 60, .inr (.inl ρ.2.1.1.2))), (q 15, .inl (cR 15, 60, .inr (.inl ρ.2.1.2.1.1))), (q 16, .inl (cR 16, 4, .inl ρ.2.1.2.1.2)), (q 17, .inl (cR 17, 4, .inl ρ.2.1.2.2)), (q 18, .inl (cR 18, 100, .inl ρ.2.2.1.1.2)), (q 19, .inl (cR 19, 5, .inl ρ.2.2.1.2)), (q 20, .inl (cR 20, 5, .inl ρ.2.2.2.1)), (q 21, .inl (cR 21, 5, .inl ρ.2.2.2.2))]) H := hP
                        have hD : va_D A ([(q 0, .inr (4, [.ref (q 1), .ref (q 2), .ref (q 3), .ref (q 4), .ref (q 5), .ref (q 6), .ref (q 7), .ref (q 8), .ref (q 9), .ref (q 10), .ref (q 11), .int ρ.1.2.2.2, .ref (q 12), .ref (q 13), .ref (q 14), .ref (q 15), .ref (q 16), .ref (q 17), .int ρ.2.2.1.1.1, .ref (q 18), .ref (q 19), .ref (q 20), .ref (q 21)])), (q 1, .inl (cR 1, 67, .inr (.inl ρ.1.1.1.1.1))), (q 2, .inl (cR 2, 67, .inl ρ.1.1.1.1.2)), (q 3, .inl (cR 3, 67, .inl ρ.1.1.1.2)), (q 4, .inl (cR 4, 67, .inl ρ.1.1.2.1.1)), (q 5, .inl (cR 5, 67, .inr (.inl ρ.1.1.2.1.2))), (q 6, .inl (cR 6, 67, .inl ρ.1.1.2.2)), (q 7, .inl (cR 7, 536, .inl ρ.1.2.1.1.1)), (q 8, .inl (cR 8, 67, .inl (upd ρ.1.2.1.1.2 ((65 : Int32).toNatClampNeg) (vp_nar .boolean j65_s0)))), (q 9, .inl (cR 9, 67, .inr (.inl (vp_updL ρ.1.2.1.2 ((65 : Int32).toNatClampNeg) (((ρ.1.2.1.2 a1.toNatClampNeg) + (ρ.1.2.1.2 a2.toNatClampNeg)) - j124_s0))))), (q 10, .inl (cR 10, 67, .inr (.inl ρ.1.2.2.1.1))), (q 11, .inl (cR 11, 67, .inl ρ.1.2.2.1.2)), (q 12, .inl (cR 12, 60, .inl ρ.2.1.1.1.1)), (q 13, .inl (cR 13, 60, .inl ρ.2.1.1.1.2)), (q 14, .inl (cR 14, 60, .inr (.inl ρ.2.1.1.2))), (q 15, .inl (cR 15, 60, .inr (.inl ρ.2.1.2.1.1))), (q 16, .inl (cR 16, 4, .inl ρ.2.1.2.1.2)), (q 17, .inl (cR 17, 4, .inl ρ.2.1.2.2)), (q 18, .inl (cR 18, 100, .inl ρ.2.2.1.1.2)), (q 19, .inl (cR 19, 5, .inl ρ.2.2.1.2)), (q 20, .inl (cR 20, 5, .inl ρ.2.2.2.1)), (q 21, .inl (cR 21, 5, .inl ρ.2.2.2.2))]) := hD
                        obtain rfl := Option.some.inj hres
                        exact W.vret hx hb hr (fun t ht hW => ⟨⟨(), rfl, trivial, by rw [ht]; exact hP, va_K.moved hW.alike hK, hD⟩, hS.F ht⟩) hS.2.2 d_R_mergeOptions_160
                    · have hres := zi_p c_140 hres
                      refine lv_lconst (v := 0) hx hb d_R_mergeOptions_143 (by decide) ?_
                      refine lv_goto (tgt := 159) hx hb d_R_mergeOptions_144 (by decide) ?_
                      refine va_last hx hb hK hP hD hS 9 8 rfl rfl (show zin 65 67 by decide) d_R_mergeOptions_159 (fun H locs hP hD hS => ?_)
                      have hP : va_P D vwCl ([(q 0, .inr (4, [.ref (q 1), .ref (q 2), .ref (q 3), .ref (q 4), .ref (q 5), .ref (q 6), .ref (q 7), .ref (q 8), .ref (q 9), .ref (q 10), .ref (q 11), .int ρ.1.2.2.2, .ref (q 12), .ref (q 13), .ref (q 14), .ref (q 15), .ref (q 16), .ref (q 17), .int ρ.2.2.1.1.1, .ref (q 18), .ref (q 19), .ref (q 20), .ref (q 21)])), (q 1, .inl (cR 1, 67, .inr (.inl ρ.1.1.1.1.1))), (q 2, .inl (cR 2, 67, .inl ρ.1.1.1.1.2)), (q 3, .inl (cR 3, 67, .inl ρ.1.1.1.2)), (q 4, .inl (cR 4, 67, .inl ρ.1.1.2.1.1)), (q 5, .inl (cR 5, 67, .inr (.inl ρ.1.1.2.1.2))), (q 6, .inl (cR 6, 67, .inl ρ.1.1.2.2)), (q 7, .inl (cR 7, 536, .inl ρ.1.2.1.1.1)), (q 8, .inl (cR 8, 67, .inl (upd ρ.1.2.1.1.2 ((65 : Int32).toNatClampNeg) (vp_nar .boolean j65_s0)))), (q 9, .inl (cR 9, 67, .inr (.inl (vp_updL ρ.1.2.1.2 ((65 : Int32).toNatClampNeg) 0)))), (q 10, .inl (cR 10, 67, .inr (.inl ρ.1.2.2.1.1))), (q 11, .inl (cR 11, 67, .inl ρ.1.2.2.1.2)), (q 12, .inl (cR 12, 60, .inl ρ.2.1.1.1.1)), (q 13, .inl (cR 13, 60, .inl ρ.2.1.1.1.2)), (q 14, .inl (cR 14, 60, .inr (.inl ρ.2.1.1.2))), (q 15, .inl (cR 15, 60, .inr (.inl ρ.2.1.2.1.1))), (q 16, .inl (cR 16, 4, .inl ρ.2.1.2.1.2)), (q 17, .inl (cR 17, 4, .inl ρ.2.1.2.2)), (q 18, .inl (cR 18, 100, .inl ρ.2.2.1.1.2)), (q 19, .inl (cR 19, 5, .inl ρ.2.2.1.2)), (q 20, .inl (cR 20, 5, .inl ρ.2.2.2.1)), (q 21, .inl (cR 21, 5, .inl ρ.2.2.2.2))]) H := hP
                      have hD : va_D A ([(q 0, .inr (4, [.ref (q 1), .ref (q 2), .ref (q 3), .ref (q 4), .ref (q 5), .ref (q 6), .ref (q 7), .ref (q 8), .ref (q 9), .ref (q 10), .ref (q 11), .int ρ.1.2.2.2, .ref (q 12), .ref (q 13), .ref (q 14), .ref (q 15), .ref (q 16), .ref (q 17), .int ρ.2.2.1.1.1, .ref (q 18), .ref (q 19), .ref (q 20), .ref (q 21)])), (q 1, .inl (cR 1, 67, .inr (.inl ρ.1.1.1.1.1))), (q 2, .inl (cR 2, 67, .inl ρ.1.1.1.1.2)), (q 3, .inl (cR 3, 67, .inl ρ.1.1.1.2)), (q 4, .inl (cR 4, 67, .inl ρ.1.1.2.1.1)), (q 5, .inl (cR 5, 67, .inr (.inl ρ.1.1.2.1.2))), (q 6, .inl (cR 6, 67, .inl ρ.1.1.2.2)), (q 7, .inl (cR 7, 536, .inl ρ.1.2.1.1.1)), (q 8, .inl (cR 8, 67, .inl (upd ρ.1.2.1.1.2 ((65 : Int32).toNatClampNeg) (vp_nar .boolean j65_s0)))), (q 9, .inl (cR 9, 67, .inr (.inl (vp_updL ρ.1.2.1.2 ((65 : Int32).toNatClampNeg) 0)))), (q 10, .inl (cR 10, 67, .inr (.inl ρ.1.2.2.1.1))), (q 11, .inl (cR 11, 67, .inl ρ.1.2.2.1.2)), (q 12, .inl (cR 12, 60, .inl ρ.2.1.1.1.1)), (q 13, .inl (cR 13, 60, .inl ρ.2.1.1.1.2)), (q 14, .inl (cR 14, 60, .inr (.inl ρ.2.1.1.2))), (q 15, .inl (cR 15, 60, .inr (.inl ρ.2.1.2.1.1))), (q 16, .inl (cR 16, 4, .inl ρ.2.1.2.1.2)), (q 17, .inl (cR 17, 4, .inl ρ.2.1.2.2)), (q 18, .inl (cR 18, 100, .inl ρ.2.2.1.1.2)), (q 19, .inl (cR 19, 5, .inl ρ.2.2.1.2)), (q 20, .inl (cR 20, 5, .inl ρ.2.2.2.1)), (q 21, .inl (cR 21, 5, .inl ρ.2.2.2.2))]) := hD
                      obtain rfl := Option.some.inj hres
                      exact W.vret hx hb hr (fun t ht hW => ⟨⟨(), rfl, trivial, by rw [ht]; exact hP, va_K.moved hW.alike hK, hD⟩, hS.F ht⟩) hS.2.2 d_R_mergeOptions_160
                  refine lv_if_eq (tgt := 123) hx hb d_R_mergeOptions_111 (by decide) (fun c_111 => ?_) (fun c_111 => ?_)
                  · have hres := zi_p c_111 hres
                    refine lv_lconst (v := 0) hx hb d_R_mergeOptions_123 (by decide) ?_
                    exact hj124 0 _ _ hP hD hS ls (lv_sub hl [0, 1, 2, 3, 4, 5] rfl) hres
                  · have hres := zi_n c_111 hres
                    refine lv_aload_n hx hb d_R_mergeOptions_114 rfl (lv_at hl 2 rfl) ?_
                    refine va_get (D := D) (ci := 4) (v := .ref (q 9)) (C := R_R) (T := T_R) (N := 23) hx hb hts in_R hown hK hP (0) rfl rfl 8 (by decide) (hts _ k_436) (fun _ h9 => h9) rfl d_R_mergeOptions_115 ?_
                    refine lv_iload_n hx hb d_R_mergeOptions_118 rfl (lv_at hl 3 rfl) ?_
                    by_cases ck_119 : zin a0 67
                    · have hres := zi_p ck_119 hres
                      refine va_lald hx hb hK hP 9 8 rfl rfl ck_119 d_R_mergeOptions_119 ?_
                      refine lv_goto (tgt := 124) hx hb d_R_mergeOptions_120 (by decide) ?_
                      exact hj124 (ρ.1.2.1.2 a0.toNatClampNeg) _ _ hP hD hS ls (lv_sub hl [0, 1, 2, 3, 4, 5] rfl) hres
                    · exact absurd (zi_n ck_119 hres) (by simp)
                · exact absurd (zi_n ck_110 hres) (by simp)
              · exact absurd (zi_n ck_103 hres) (by simp)
            · exact absurd (zi_n ck_97 hres) (by simp)
          refine lv_if_eq (tgt := 84) hx hb d_R_mergeOptions_72 (by decide) (fun c_72 => ?_) (fun c_72 => ?_)
          · have hres := zi_p c_72 hres
            refine lv_aload_n hx hb d_R_mergeOptions_84 rfl (lv_at hl 1 rfl) ?_
            refine va_get (D := D) (ci := 4) (v := .ref (q 9)) (C := R_R) (T := T_R) (N := 23) hx hb hts in_R hown hK hP (0) rfl rfl 8 (by decide) (hts _ k_436) (fun _ h9 => h9) rfl d_R_mergeOptions_85 ?_
            refine lv_iload_n hx hb d_R_mergeOptions_88 rfl (lv_at hl 4 rfl) ?_
            by_cases ck_89 : zin a2 67
            · have hres := zi_p ck_89 hres
              refine va_lald hx hb hK hP 9 8 rfl rfl ck_89 d_R_mergeOptions_89 ?_
              exact hj90 (ρ.1.2.1.2 a2.toNatClampNeg) _ _ hP hD hS ls (lv_sub hl [0, 1, 2, 3, 4] rfl) hres
            · exact absurd (zi_n ck_89 hres) (by simp)
          · have hres := zi_n c_72 hres
            refine lv_aload_n hx hb d_R_mergeOptions_75 rfl (lv_at hl 1 rfl) ?_
            refine va_get (D := D) (ci := 4) (v := .ref (q 9)) (C := R_R) (T := T_R) (N := 23) hx hb hts in_R hown hK hP (0) rfl rfl 8 (by decide) (hts _ k_436) (fun _ h9 => h9) rfl d_R_mergeOptions_76 ?_
            refine lv_iload_n hx hb d_R_mergeOptions_79 rfl (lv_at hl 3 rfl) ?_
            by_cases ck_80 : zin a1 67
            · have hres := zi_p ck_80 hres
              refine va_lald hx hb hK hP 9 8 rfl rfl ck_80 d_R_mergeOptions_80 ?_
              refine lv_goto (tgt := 90) hx hb d_R_mergeOptions_81 (by decide) ?_
              exact hj90 (ρ.1.2.1.2 a1.toNatClampNeg) _ _ hP hD hS ls (lv_sub hl [0, 1, 2, 3, 4] rfl) hres
            · exact absurd (zi_n ck_80 hres) (by simp)
        · exact absurd (zi_n ck_71 hres) (by simp)
      refine lv_if_ne (tgt := 60) hx hb d_R_mergeOptions_33 (by decide) (fun c_33 => ?_) (fun c_33 => ?_)
      · have hres := zi_n c_33 hres
        refine lv_iconst (v := 1) hx hb d_R_mergeOptions_60 (by decide) ?_
        refine lv_goto (tgt := 65) hx hb d_R_mergeOptions_61 (by decide) ?_
        exact hj65 1 _ _ hP hD hS ls (lv_sub hl [0, 1, 2, 3, 4] rfl) hres
      · have hres := zi_p c_33 hres
        refine lv_aload_n hx hb d_R_mergeOptions_36 rfl (lv_at hl 1 rfl) ?_
        refine va_get (D := D) (ci := 4) (v := .ref (q 8)) (C := R_R) (T := T_R) (N := 23) hx hb hts in_R hown hK hP (0) rfl rfl 7 (by decide) (hts _ k_435) (fun _ h9 => h9) rfl d_R_mergeOptions_37 ?_
        refine lv_iload_n hx hb d_R_mergeOptions_40 rfl (lv_at hl 3 rfl) ?_
        by_cases ck_41 : zin a1 67
        · have hres := zi_p ck_41 hres
          refine va_zald hx hb hK hP 8 7 rfl rfl ck_41 d_R_mergeOptions_41 ?_
          refine lv_aload_n hx hb d_R_mergeOptions_42 rfl (lv_at hl 1 rfl) ?_
          refine va_get (D := D) (ci := 4) (v := .ref (q 8)) (C := R_R) (T := T_R) (N := 23) hx hb hts in_R hown hK hP (0) rfl rfl 7 (by decide) (hts _ k_435) (fun _ h9 => h9) rfl d_R_mergeOptions_43 ?_
          refine lv_iload_n hx hb d_R_mergeOptions_46 rfl (lv_at hl 4 rfl) ?_
          by_cases ck_47 : zin a2 67
          · have hres := zi_p ck_47 hres
            refine va_zald hx hb hK hP 8 7 rfl rfl ck_47 d_R_mergeOptions_47 ?_
            refine lv_icmp_eq (tgt := 64) hx hb d_R_mergeOptions_48 (by decide) (fun c_48 => ?_) (fun c_48 => ?_)
            · have hres := zi_p c_48 hres
              refine lv_iconst (v := 0) hx hb d_R_mergeOptions_64 (by decide) ?_
              exact hj65 0 _ _ hP hD hS ls (lv_sub hl [0, 1, 2, 3, 4] rfl) hres
            · have hres := zi_n c_48 hres
              refine lv_aload_n hx hb d_R_mergeOptions_51 rfl (lv_at hl 1 rfl) ?_
              refine va_get (D := D) (ci := 4) (v := .ref (q 8)) (C := R_R) (T := T_R) (N := 23) hx hb hts in_R hown hK hP (0) rfl rfl 7 (by decide) (hts _ k_435) (fun _ h9 => h9) rfl d_R_mergeOptions_52 ?_
              refine lv_iload_n hx hb d_R_mergeOptions_55 rfl (lv_at hl 2 rfl) ?_
              by_cases ck_56 : zin a0 67
              · have hres := zi_p ck_56 hres
                refine va_zald hx hb hK hP 8 7 rfl rfl ck_56 d_R_mergeOptions_56 ?_
                refine lv_if_ne (tgt := 64) hx hb d_R_mergeOptions_57 (by decide) (fun c_57 => ?_) (fun c_57 => ?_)
                · have hres := zi_n c_57 hres
                  refine lv_iconst (v := 0) hx hb d_R_mergeOptions_64 (by decide) ?_
                  exact hj65 0 _ _ hP hD hS ls (lv_sub hl [0, 1, 2, 3, 4] rfl) hres
                · have hres := zi_p c_57 hres
                  refine lv_iconst (v := 1) hx hb d_R_mergeOptions_60 (by decide) ?_
                  refine lv_goto (tgt := 65) hx hb d_R_mergeOptions_61 (by decide) ?_
                  exact hj65 1 _ _ hP hD hS ls (lv_sub hl [0, 1, 2, 3, 4] rfl) hres
              · exact absurd (zi_n ck_56 hres) (by simp)
          · exact absurd (zi_n ck_47 hres) (by simp)
        · exact absurd (zi_n ck_41 hres) (by simp)
    refine lv_if_eq (tgt := 22) hx hb d_R_mergeOptions_6 (by decide) (fun c_6 => ?_) (fun c_6 => ?_)
    · have hres := zi_p c_6 hres
      refine lv_iconst (v := 0) hx hb d_R_mergeOptions_22 (by decide) ?_
      exact hj23 0 _ _ hP hD hS ls (lv_sub hl [0, 1, 2, 3] rfl) hres
    · have hres := zi_n c_6 hres
      refine lv_aload_n hx hb d_R_mergeOptions_9 rfl (lv_at hl 0 rfl) ?_
      refine va_get (D := D) (ci := 4) (v := .ref (q 8)) (C := R_R) (T := T_R) (N := 23) hx hb hts in_R hown hK hP (0) rfl rfl 7 (by decide) (hts _ k_435) (fun _ h9 => h9) rfl d_R_mergeOptions_10 ?_
      refine lv_iload_n hx hb d_R_mergeOptions_13 rfl (lv_at hl 3 rfl) ?_
      by_cases ck_14 : zin a2 67
      · have hres := zi_p ck_14 hres
        refine va_zald hx hb hK hP 8 7 rfl rfl ck_14 d_R_mergeOptions_14 ?_
        refine lv_if_eq (tgt := 22) hx hb d_R_mergeOptions_15 (by decide) (fun c_15 => ?_) (fun c_15 => ?_)
        · have hres := zi_p c_15 hres
          refine lv_iconst (v := 0) hx hb d_R_mergeOptions_22 (by decide) ?_
          exact hj23 0 _ _ hP hD hS ls (lv_sub hl [0, 1, 2, 3] rfl) hres
        · have hres := zi_n c_15 hres
          refine lv_iconst (v := 1) hx hb d_R_mergeOptions_18 (by decide) ?_
          refine lv_goto (tgt := 23) hx hb d_R_mergeOptions_19 (by decide) ?_
          exact hj23 1 _ _ hP hD hS ls (lv_sub hl [0, 1, 2, 3] rfl) hres
      · exact absurd (zi_n ck_14 hres) (by simp)
  · exact absurd (zi_n ck_5 hres) (by simp)
def L_R_mix_6 (a1 : Int64) : Nat → Int32 → Int64 → Option (Int32 × Int64)
  | 0, _, _ => none
  | n + 1, x6_6, x6_4 =>
    if 8 ≤ x6_6 then
      some (x6_6, x6_4)
    else
      L_R_mix_6 a1 n (x6_6 + 1) ((x6_4 ^^^ ((zr_l a1 (8 * x6_6)) &&& 255)) * 1099511628211)
def f_R_mix (a0 : Int64) (a1 : Int64) : Option (Int64) :=
  Option.bind (L_R_mix_6 a1 zfuel 0 a0) (fun w6 =>
    some w6.2)
set_option maxHeartbeats 4000000 in
set_option maxRecDepth 100000 in
theorem c_R_mix (l : Launch) (D : va_G) (tys : List (ClassId × FieldType)) (a0 : Int64) (a1 : Int64) (v : Int64) (hres : f_R_mix a0 a1 = some v) : Met l y_R_mix w_R_mix ({ frames := 0, cells := 0, slots := 0, locals := 0 } : Room) (va_Pc ([.long a0, .long a1]) (zro D tys ([]))) (vp_Sl (fun r : Int64 => r = v)) 0 0 (fun _ => False) := by
  refine Met.ofW (cc := b_R_mix) (maxL := 7) (ret := (some .long)) (by decide) rfl ?_
  intro p e s m args below meth c s₁ B hml hv
  obtain ⟨rfl, hP, hK, hN⟩ := hv
  have hx := B.exec
  have hb := B.bytes
  have hr := B.returns
  have hts : ∀ w ∈ zt, w.before ([.long a0, .long a1].toArray) s = true := fun w h => atoms_spec (ws := w_R_mix) B.pre w (List.mem_cons_of_mem _ h)
  have hown : s.vm.findClass R_R = some m.cls := findClass_of_methodNamed B.named
  have hlocks := B.notSynchronized
  have hl := lv_entry ([.long a0, .long a1]) (n := 7) (Nat.le_of_ble_eq_true rfl)
  rw [lg_entry_eq]
  generalize (lg_sl ([.long a0, .long a1]) ++ List.replicate (7 - (lg_sl ([.long a0, .long a1])).length) Slot.unset).toArray = ls at hl ⊢
  have hl : lv_has ls 7 [(0, .long a0), (2, .long a1)] := hl
  unfold f_R_mix at hres
  refine lv_lload_n hx hb d_R_mix_0 rfl (lv_at hl 0 rfl) ?_
  refine lv_lstore (lv' := [(4, .long a0), (0, .long a0), (2, .long a1)]) hx hb d_R_mix_1 hl (by decide) rfl (fun ls hl => ?_)
  refine lv_iconst (v := 0) hx hb d_R_mix_3 (by decide) ?_
  refine lv_istore (lv' := [(6, .int 0), (4, .long a0), (0, .long a0), (2, .long a1)]) hx hb d_R_mix_4 hl (by decide) rfl (fun ls hl => ?_)
  obtain ⟨w6, hL6, hres⟩ := zo_b hres
  have hk6 : ∀ (ls : Array Slot), lv_has ls 7 [(6, .int w6.1), (4, .long w6.2), (0, .long a0), (2, .long a1)] → W p l e (headSpec w_R_mix ({ frames := 0, cells := 0, slots := 0, locals := 0 } : Room)).room s m ([.long a0, .long a1].toArray) below meth c s.heap [] 0 0 (MQ below (vp_Sl (fun r : Int64 => r = v)) ([.long a0, .long a1].toArray) s 0 0 (fun _ => False)) (F0 m 39 ls []) := by
    intro ls hl
    refine lv_lload hx hb d_R_mix_39 (lv_at hl 1 rfl) ?_
    obtain rfl := Option.some.inj hres
    exact W.lret (v := w6.2) hx hb hr (fun t ht hW => ⟨_, rfl, rfl, ht⟩) (fun _ hq => by cases hq) d_R_mix_41
  have hloop6 : ∀ (n : Nat) (x6_6 : Int32) (x6_4 : Int64) (ls : Array Slot), lv_has ls 7 [(6, .int x6_6), (4, .long x6_4), (0, .long a0), (2, .long a1)] → L_R_mix_6 a1 n x6_6 x6_4 = some w6 → W p l e (headSpec w_R_mix ({ frames := 0, cells := 0, slots := 0, locals := 0 } : Room)).room s m ([.long a0, .long a1].toArray) below meth c s.heap [] 0 0 (MQ below (vp_Sl (fun r : Int64 => r = v)) ([.long a0, .long a1].toArray) s 0 0 (fun _ => False)) (F0 m 6 ls []) := by
    intro n
    induction n with
    | zero => intro x6_6 x6_4 ls hl hL6; cases hL6
    | succ n ih =>
      intro x6_6 x6_4 ls hl hL6
      rw [L_R_mix_6] at hL6
      refine lv_iload hx hb d_R_mix_6 (lv_at hl 0 rfl) ?_
      refine lv_bipush (v := 8) hx hb d_R_mix_8 (by decide) ?_
      refine lv_icmp_ge (tgt := 39) hx hb d_R_mix_10 (by decide) (fun c_10 => ?_) (fun c_10 => ?_)
      · have hL6 := zi_p c_10 hL6
        obtain rfl := Option.some.inj hL6
        exact hk6 ls (lv_sub hl [0, 1, 2, 3] rfl)
      · have hL6 := zi_n c_10 hL6
        refine lv_lload hx hb d_R_mix_13 (lv_at hl 1 rfl) ?_
        refine lv_lload_n hx hb d_R_mix_15 rfl (lv_at hl 3 rfl) ?_
        refine lv_bipush (v := 8) hx hb d_R_mix_16 (by decide) ?_
        refine lv_iload hx hb d_R_mix_18 (lv_at hl 0 rfl) ?_
        refine lv_imul hx hb d_R_mix_20 ?_
        refine lv_lshr (v := (zr_l a1 (8 * x6_6))) hx hb d_R_mix_21 rfl ?_
        refine lv_ldc2 (v := 255) hx hb hown (hts _ k_536) d_R_mix_22 ?_
        refine lv_land hx hb d_R_mix_25 ?_
        refine lv_lxor hx hb d_R_mix_26 ?_
        refine lv_ldc2 (v := 1099511628211) hx hb hown (hts _ k_537) d_R_mix_27 ?_
        refine lv_lmul hx hb d_R_mix_30 ?_
        refine lv_lstore (lv' := [(4, .long ((x6_4 ^^^ ((zr_l a1 (8 * x6_6)) &&& 255)) * 1099511628211)), (6, .int x6_6), (0, .long a0), (2, .long a1)]) hx hb d_R_mix_31 hl (by decide) rfl (fun ls hl => ?_)
        refine lv_iinc (v := (x6_6 + 1)) (lv' := [(6, .int (x6_6 + 1)), (4, .long ((x6_4 ^^^ ((zr_l a1 (8 * x6_6)) &&& 255)) * 1099511628211)), (0, .long a0), (2, .long a1)]) hx hb d_R_mix_33 hl (k := 1) rfl rfl (by decide) rfl (fun ls hl => ?_)
        refine lv_goto (tgt := 6) hx hb d_R_mix_36 (by decide) ?_
        exact ih (x6_6 + 1) ((x6_4 ^^^ ((zr_l a1 (8 * x6_6)) &&& 255)) * 1099511628211) ls (lv_sub hl [0, 1, 2, 3] rfl) hL6
  exact hloop6 zfuel 0 a0 ls (lv_sub hl [0, 1, 2, 3] rfl) hL6
abbrev qd_R_move (D : va_G) (tys : List (ClassId × FieldType)) (q : Nat → Nat) (cR : Nat → ClassId) (ρ : RSt) (a0 : Int32) (a1 : Int32) (v : RSt) (A : Nat → Prop) : Array Value → State → Outcome → State → Prop := va_Qv (fun _ : Unit => True) (fun _ t => zwd D (zRt cR) (A) (zR q cR v) t) (A)

def f_R_move (ρ : RSt) (a0 : Int32) (a1 : Int32) : Option (RSt) :=
  if zin a0 4 then
    if (ρ.2.1.2.2 a0.toNatClampNeg) = 0 then
      if zin a0 4 then
        some (((((ρ.1.1.1.1.1, ρ.1.1.1.1.2), ρ.1.1.1.2), ((ρ.1.1.2.1.1, ρ.1.1.2.1.2), ρ.1.1.2.2)), (((ρ.1.2.1.1.1, ρ.1.2.1.1.2), ρ.1.2.1.2), ((ρ.1.2.2.1.1, ρ.1.2.2.1.2), ρ.1.2.2.2))), ((((ρ.2.1.1.1.1, ρ.2.1.1.1.2), ρ.2.1.1.2), ((ρ.2.1.2.1.1, (upd ρ.2.1.2.1.2 a0.toNatClampNeg a1)), ρ.2.1.2.2)), (((ρ.2.2.1.1.1, ρ.2.2.1.1.2), ρ.2.2.1.2), (ρ.2.2.2.1, ρ.2.2.2.2))))
      else
        none
    else
      if zin a0 4 then
        if (ρ.2.1.2.1.2 a0.toNatClampNeg) = a1 then
          if zin a0 4 then
            some (((((ρ.1.1.1.1.1, ρ.1.1.1.1.2), ρ.1.1.1.2), ((ρ.1.1.2.1.1, ρ.1.1.2.1.2), ρ.1.1.2.2)), (((ρ.1.2.1.1.1, ρ.1.2.1.1.2), ρ.1.2.1.2), ((ρ.1.2.2.1.1, ρ.1.2.2.1.2), ρ.1.2.2.2))), ((((ρ.2.1.1.1.1, ρ.2.1.1.1.2), ρ.2.1.1.2), ((ρ.2.1.2.1.1, (upd ρ.2.1.2.1.2 a0.toNatClampNeg a1)), ρ.2.1.2.2)), (((ρ.2.2.1.1.1, ρ.2.2.1.1.2), ρ.2.2.1.2), (ρ.2.2.2.1, ρ.2.2.2.2))))
          else
            none
        else
          if 100 ≤ ρ.2.2.1.1.1 then
            if zin a0 4 then
              some (((((ρ.1.1.1.1.1, ρ.1.1.1.1.2), ρ.1.1.1.2), ((ρ.1.1.2.1.1, ρ.1.1.2.1.2), ρ.1.1.2.2)), (((ρ.1.2.1.1.1, ρ.1.2.1.1.2), ρ.1.2.1.2), ((ρ.1.2.2.1.1, ρ.1.2.2.1.2), ρ.1.2.2.2))), ((((ρ.2.1.1.1.1, ρ.2.1.1.1.2), ρ.2.1.1.2), ((ρ.2.1.2.1.1, (upd ρ.2.1.2.1.2 a0.toNatClampNeg a1)), ρ.2.1.2.2)), (((ρ.2.2.1.1.1, ρ.2.2.1.1.2), ρ.2.2.1.2), (ρ.2.2.2.1, ρ.2.2.2.2))))
            else
              none
          else
            if zin ρ.2.2.1.1.1 100 then
              if zin a0 4 then
                some (((((ρ.1.1.1.1.1, ρ.1.1.1.1.2), ρ.1.1.1.2), ((ρ.1.1.2.1.1, ρ.1.1.2.1.2), ρ.1.1.2.2)), (((ρ.1.2.1.1.1, ρ.1.2.1.1.2), ρ.1.2.1.2), ((ρ.1.2.2.1.1, ρ.1.2.2.1.2), ρ.1.2.2.2))), ((((ρ.2.1.1.1.1, ρ.2.1.1.1.2), ρ.2.1.1.2), ((ρ.2.1.2.1.1, (upd ρ.2.1.2.1.2 a0.toNatClampNeg a1)), ρ.2.1.2.2)), ((((ρ.2.2.1.1.1 + 1), (upd ρ.2.2.1.1.2 ρ.2.2.1.1.1.toNatClampNeg (a0 + (4 * (a1 + 1))))), ρ.2.2.1.2), (ρ.2.2.2.1, ρ.2.2.2.2))))
              else
                none
            else
              none
      else
        none
  else
    none
set_option maxHeartbeats 4000000 in
set_option maxRecDepth 100000 in
theorem c_R_move (l : Launch) (D : va_G) (tys : List (ClassId × FieldType)) (sz : Nat) (q : Nat → Nat) (cR : Nat → ClassId) (ρ : RSt) (a0 : Int32) (a1 : Int32) (v : RSt) (hres : f_R_move ρ a0 a1 = some v) : Met l y_R_move w_R_move ({ frames := 0, cells := 0, slots := 0, locals := 0 } : Room) (va_Pc ([.ref (q 0), .int a0, .int a1]) (zrw D (zRt cR) sz (zR q cR ρ))) (qd_R_move D tys q cR ρ a0 a1 v (va_A (zR q cR ρ) sz)) 0 0 (va_A (zR q cR ρ) sz) := by
  refine Met.ofW (cc := b_R_move) (maxL := 3) (ret := none) (by decide) rfl ?_
  intro p e s m args below meth c s₁ B hml hv
  obtain ⟨rfl, hsz, hP, hK, hD0, hN⟩ := hv
  have hx := B.exec
  have hb := B.bytes
  have hr := B.returns
  have hts : ∀ w ∈ zt, w.before ([.ref (q 0), .int a0, .int a1].toArray) s = true := fun w h => atoms_spec (ws := w_R_move) B.pre w (List.mem_cons_of_mem _ h)
  have hown : s.vm.findClass R_R = some m.cls := findClass_of_methodNamed B.named
  have hlocks := B.notSynchronized
  subst hsz
  have hD := hD0.self (sz := s.heap.size)
  generalize hAe : va_A (zR q cR ρ) s.heap.size = A at hD ⊢
  have hA : ∀ q : Nat, s.heap.size ≤ q → A q := fun q h => by rw [← hAe]; exact Or.inr h
  have hS : va_S A s.heap s.heap [] := va_S.rf
  have hP : va_P D vwCl (zR q cR ρ) s.heap := hP
  have hD : va_D A (zR q cR ρ) := hD
  have hl := lv_entry ([.ref (q 0), .int a0, .int a1]) (n := 3) (Nat.le_of_ble_eq_true rfl)
  rw [lg_entry_eq]
  generalize (lg_sl ([.ref (q 0), .int a0, .int a1]) ++ List.replicate (3 - (lg_sl ([.ref (q 0), .int a0, .int a1])).length) Slot.unset).toArray = ls at hl ⊢
  have hl : lv_has ls 3 [(0, .ref (q 0)), (1, .int a0), (2, .int a1)] := hl
  unfold f_R_move at hres
  refine lv_aload_n hx hb d_R_move_0 rfl (lv_at hl 0 rfl) ?_
  refine va_get (D := D) (ci := 4) (v := .ref (q 17)) (C := R_R) (T := T_R) (N := 23) hx hb hts in_R hown hK hP (0) rfl rfl 17 (by decide) (hts _ k_445) (fun _ h9 => h9) rfl d_R_move_1 ?_
  refine lv_iload_n hx hb d_R_move_4 rfl (lv_at hl 1 rfl) ?_
  by_cases ck_5 : zin a0 4
  · have hres := zi_p ck_5 hres
    refine va_zald hx hb hK hP 17 16 rfl rfl ck_5 d_R_move_5 ?_
    refine lv_if_eq (tgt := 54) hx hb d_R_move_6 (by decide) (fun c_6 => ?_) (fun c_6 => ?_)
    · have hres := zi_p c_6 hres
      refine lv_aload_n hx hb d_R_move_54 rfl (lv_at hl 0 rfl) ?_
      refine va_get (D := D) (ci := 4) (v := .ref (q 16)) (C := R_R) (T := T_R) (N := 23) hx hb hts in_R hown hK hP (0) rfl rfl 16 (by decide) (hts _ k_444) (fun _ h9 => h9) rfl d_R_move_55 ?_
      refine lv_iload_n hx hb d_R_move_58 rfl (lv_at hl 1 rfl) ?_
      refine lv_iload_n hx hb d_R_move_59 rfl (lv_at hl 2 rfl) ?_
      by_cases ck_60 : zin a0 4
      · have hres := zi_p ck_60 hres
        refine va_iast hx hb hK hP hD hS 16 15 rfl rfl ck_60 d_R_move_60 (fun H locs hP hD hS => ?_)
        have hP : va_P D vwCl ([(q 0, .inr (4, [.ref (q 1), .ref (q 2), .ref (q 3), .ref (q 4), .ref (q 5), .ref (q 6), .ref (q 7), .ref (q 8), .ref (q 9), .ref (q 10), .ref (q 11), .int ρ.1.2.2.2, .ref (q 12), .ref (q 13), .ref (q 14), .ref (q 15), .ref (q 16), .ref (q 17), .int ρ.2.2.1.1.1, .ref (q 18), .ref (q 19), .ref (q 20), .ref (q 21)])), (q 1, .inl (cR 1, 67, .inr (.inl ρ.1.1.1.1.1))), (q 2, .inl (cR 2, 67, .inl ρ.1.1.1.1.2)), (q 3, .inl (cR 3, 67, .inl ρ.1.1.1.2)), (q 4, .inl (cR 4, 67, .inl ρ.1.1.2.1.1)), (q 5, .inl (cR 5, 67, .inr (.inl ρ.1.1.2.1.2))), (q 6, .inl (cR 6, 67, .inl ρ.1.1.2.2)), (q 7, .inl (cR 7, 536, .inl ρ.1.2.1.1.1)), (q 8, .inl (cR 8, 67, .inl ρ.1.2.1.1.2)), (q 9, .inl (cR 9, 67, .inr (.inl ρ.1.2.1.2))), (q 10, .inl (cR 10, 67, .inr (.inl ρ.1.2.2.1.1))), (q 11, .inl (cR 11, 67, .inl ρ.1.2.2.1.2)), (q 12, .inl (cR 12, 60, .inl ρ.2.1.1.1.1)), (q 13, .inl (cR 13, 60, .inl ρ.2.1.1.1.2)), (q 14, .inl (cR 14, 60, .inr (.inl ρ.2.1.1.2))), (q 15, .inl (cR 15, 60, .inr (.inl ρ.2.1.2.1.1))), (q 16, .inl (cR 16, 4, .inl (upd ρ.2.1.2.1.2 a0.toNatClampNeg a1))), (q 17, .inl (cR 17, 4, .inl ρ.2.1.2.2)), (q 18, .inl (cR 18, 100, .inl ρ.2.2.1.1.2)), (q 19, .inl (cR 19, 5, .inl ρ.2.2.1.2)), (q 20, .inl (cR 20, 5, .inl ρ.2.2.2.1)), (q 21, .inl (cR 21, 5, .inl ρ.2.2.2.2))]) H := hP
        have hD : va_D A ([(q 0, .inr (4, [.ref (q 1), .ref (q 2), .ref (q 3), .ref (q 4), .ref (q 5), .ref (q 6), .ref (q 7), .ref (q 8), .ref (q 9), .ref (q 10), .ref (q 11), .int ρ.1.2.2.2, .ref (q 12), .ref (q 13), .ref (q 14), .ref (q 15), .ref (q 16), .ref (q 17), .int ρ.2.2.1.1.1, .ref (q 18), .ref (q 19), .ref (q 20), .ref (q 21)])), (q 1, .inl (cR 1, 67, .inr (.inl ρ.1.1.1.1.1))), (q 2, .inl (cR 2, 67, .inl ρ.1.1.1.1.2)), (q 3, .inl (cR 3, 67, .inl ρ.1.1.1.2)), (q 4, .inl (cR 4, 67, .inl ρ.1.1.2.1.1)), (q 5, .inl (cR 5, 67, .inr (.inl ρ.1.1.2.1.2))), (q 6, .inl (cR 6, 67, .inl ρ.1.1.2.2)), (q 7, .inl (cR 7, 536, .inl ρ.1.2.1.1.1)), (q 8, .inl (cR 8, 67, .inl ρ.1.2.1.1.2)), (q 9, .inl (cR 9, 67, .inr (.inl ρ.1.2.1.2))), (q 10, .inl (cR 10, 67, .inr (.inl ρ.1.2.2.1.1))), (q 11, .inl (cR 11, 67, .inl ρ.1.2.2.1.2)), (q 12, .inl (cR 12, 60, .inl ρ.2.1.1.1.1)), (q 13, .inl (cR 13, 60, .inl ρ.2.1.1.1.2)), (q 14, .inl (cR 14, 60, .inr (.inl ρ.2.1.1.2))), (q 15, .inl (cR 15, 60, .inr (.inl ρ.2.1.2.1.1))), (q 16, .inl (cR 16, 4, .inl (upd ρ.2.1.2.1.2 a0.toNatClampNeg a1))), (q 17, .inl (cR 17, 4, .inl ρ.2.1.2.2)), (q 18, .inl (cR 18, 100, .inl ρ.2.2.1.1.2)), (q 19, .inl (cR 19, 5, .inl ρ.2.2.1.2)), (q 20, .inl (cR 20, 5, .inl ρ.2.2.2.1)), (q 21, .inl (cR 21, 5, .inl ρ.2.2.2.2))]) := hD
        obtain rfl := Option.some.inj hres
        exact W.vret hx hb hr (fun t ht hW => ⟨⟨(), rfl, trivial, by rw [ht]; exact hP, va_K.moved hW.alike hK, hD⟩, hS.F ht⟩) hS.2.2 d_R_move_61
      · exact absurd (zi_n ck_60 hres) (by simp)
    · have hres := zi_n c_6 hres
      refine lv_aload_n hx hb d_R_move_9 rfl (lv_at hl 0 rfl) ?_
      refine va_get (D := D) (ci := 4) (v := .ref (q 16)) (C := R_R) (T := T_R) (N := 23) hx hb hts in_R hown hK hP (0) rfl rfl 16 (by decide) (hts _ k_444) (fun _ h9 => h9) rfl d_R_move_10 ?_
      refine lv_iload_n hx hb d_R_move_13 rfl (lv_at hl 1 rfl) ?_
      by_cases ck_14 : zin a0 4
      · have hres := zi_p ck_14 hres
        refine va_iald hx hb hK hP 16 15 rfl rfl ck_14 d_R_move_14 ?_
        refine lv_iload_n hx hb d_R_move_15 rfl (lv_at hl 2 rfl) ?_
        refine lv_icmp_eq (tgt := 54) hx hb d_R_move_16 (by decide) (fun c_16 => ?_) (fun c_16 => ?_)
        · have hres := zi_p c_16 hres
          refine lv_aload_n hx hb d_R_move_54 rfl (lv_at hl 0 rfl) ?_
          refine va_get (D := D) (ci := 4) (v := .ref (q 16)) (C := R_R) (T := T_R) (N := 23) hx hb hts in_R hown hK hP (0) rfl rfl 16 (by decide) (hts _ k_444) (fun _ h9 => h9) rfl d_R_move_55 ?_
          refine lv_iload_n hx hb d_R_move_58 rfl (lv_at hl 1 rfl) ?_
          refine lv_iload_n hx hb d_R_move_59 rfl (lv_at hl 2 rfl) ?_
          by_cases ck_60 : zin a0 4
          · have hres := zi_p ck_60 hres
            refine va_iast hx hb hK hP hD hS 16 15 rfl rfl ck_60 d_R_move_60 (fun H locs hP hD hS => ?_)
            have hP : va_P D vwCl ([(q 0, .inr (4, [.ref (q 1), .ref (q 2), .ref (q 3), .ref (q 4), .ref (q 5), .ref (q 6), .ref (q 7), .ref (q 8), .ref (q 9), .ref (q 10), .ref (q 11), .int ρ.1.2.2.2, .ref (q 12), .ref (q 13), .ref (q 14), .ref (q 15), .ref (q 16), .ref (q 17), .int ρ.2.2.1.1.1, .ref (q 18), .ref (q 19), .ref (q 20), .ref (q 21)])), (q 1, .inl (cR 1, 67, .inr (.inl ρ.1.1.1.1.1))), (q 2, .inl (cR 2, 67, .inl ρ.1.1.1.1.2)), (q 3, .inl (cR 3, 67, .inl ρ.1.1.1.2)), (q 4, .inl (cR 4, 67, .inl ρ.1.1.2.1.1)), (q 5, .inl (cR 5, 67, .inr (.inl ρ.1.1.2.1.2))), (q 6, .inl (cR 6, 67, .inl ρ.1.1.2.2)), (q 7, .inl (cR 7, 536, .inl ρ.1.2.1.1.1)), (q 8, .inl (cR 8, 67, .inl ρ.1.2.1.1.2)), (q 9, .inl (cR 9, 67, .inr (.inl ρ.1.2.1.2))), (q 10, .inl (cR 10, 67, .inr (.inl ρ.1.2.2.1.1))), (q 11, .inl (cR 11, 67, .inl ρ.1.2.2.1.2)), (q 12, .inl (cR 12, 60, .inl ρ.2.1.1.1.1)), (q 13, .inl (cR 13, 60, .inl ρ.2.1.1.1.2)), (q 14, .inl (cR 14, 60, .inr (.inl ρ.2.1.1.2))), (q 15, .inl (cR 15, 60, .inr (.inl ρ.2.1.2.1.1))), (q 16, .inl (cR 16, 4, .inl (upd ρ.2.1.2.1.2 a0.toNatClampNeg a1))), (q 17, .inl (cR 17, 4, .inl ρ.2.1.2.2)), (q 18, .inl (cR 18, 100, .inl ρ.2.2.1.1.2)), (q 19, .inl (cR 19, 5, .inl ρ.2.2.1.2)), (q 20, .inl (cR 20, 5, .inl ρ.2.2.2.1)), (q 21, .inl (cR 21, 5, .inl ρ.2.2.2.2))]) H := hP
            have hD : va_D A ([(q 0, .inr (4, [.ref (q 1), .ref (q 2), .ref (q 3), .ref (q 4), .ref (q 5), .ref (q 6), .ref (q 7), .ref (q 8), .ref (q 9), .ref (q 10), .ref (q 11), .int ρ.1.2.2.2, .ref (q 12), .ref (q 13), .ref (q 14), .ref (q 15), .ref (q 16), .ref (q 17), .int ρ.2.2.1.1.1, .ref (q 18), .ref (q 19), .ref (q 20), .ref (q 21)])), (q 1, .inl (cR 1, 67, .inr (.inl ρ.1.1.1.1.1))), (q 2, .inl (cR 2, 67, .inl ρ.1.1.1.1.2)), (q 3, .inl (cR 3, 67, .inl ρ.1.1.1.2)), (q 4, .inl (cR 4, 67, .inl ρ.1.1.2.1.1)), (q 5, .inl (cR 5, 67, .inr (.inl ρ.1.1.2.1.2))), (q 6, .inl (cR 6, 67, .inl ρ.1.1.2.2)), (q 7, .inl (cR 7, 536, .inl ρ.1.2.1.1.1)), (q 8, .inl (cR 8, 67, .inl ρ.1.2.1.1.2)), (q 9, .inl (cR 9, 67, .inr (.inl ρ.1.2.1.2))), (q 10, .inl (cR 10, 67, .inr (.inl ρ.1.2.2.1.1))), (q 11, .inl (cR 11, 67, .inl ρ.1.2.2.1.2)), (q 12, .inl (cR 12, 60, .inl ρ.2.1.1.1.1)), (q 13, .inl (cR 13, 60, .inl ρ.2.1.1.1.2)), (q 14, .inl (cR 14, 60, .inr (.inl ρ.2.1.1.2))), (q 15, .inl (cR 15, 60, .inr (.inl ρ.2.1.2.1.1))), (q 16, .inl (cR 16, 4, .inl (upd ρ.2.1.2.1.2 a0.toNatClampNeg a1))), (q 17, .inl (cR 17, 4, .inl ρ.2.1.2.2)), (q 18, .inl (cR 18, 100, .inl ρ.2.2.1.1.2)), (q 19, .inl (cR 19, 5, .inl ρ.2.2.1.2)), (q 20, .inl (cR 20, 5, .inl ρ.2.2.2.1)), (q 21, .inl (cR 21, 5, .inl ρ.2.2.2.2))]) := hD
            obtain rfl := Option.some.inj hres
            exact W.vret hx hb hr (fun t ht hW => ⟨⟨(), rfl, trivial, by rw [ht]; exact hP, va_K.moved hW.alike hK, hD⟩, hS.F ht⟩) hS.2.2 d_R_move_61
          · exact absurd (zi_n ck_60 hres) (by simp)
        · have hres := zi_n c_16 hres
          refine lv_aload_n hx hb d_R_move_19 rfl (lv_at hl 0 rfl) ?_
          refine va_get (D := D) (ci := 4) (v := .int ρ.2.2.1.1.1) (C := R_R) (T := T_R) (N := 23) hx hb hts in_R hown hK hP (0) rfl rfl 18 (by decide) (hts _ k_446) (fun _ h9 => h9) rfl d_R_move_20 ?_
          refine lv_bipush (v := 100) hx hb d_R_move_23 (by decide) ?_
          refine lv_icmp_ge (tgt := 54) hx hb d_R_move_25 (by decide) (fun c_25 => ?_) (fun c_25 => ?_)
          · have hres := zi_p c_25 hres
            refine lv_aload_n hx hb d_R_move_54 rfl (lv_at hl 0 rfl) ?_
            refine va_get (D := D) (ci := 4) (v := .ref (q 16)) (C := R_R) (T := T_R) (N := 23) hx hb hts in_R hown hK hP (0) rfl rfl 16 (by decide) (hts _ k_444) (fun _ h9 => h9) rfl d_R_move_55 ?_
            refine lv_iload_n hx hb d_R_move_58 rfl (lv_at hl 1 rfl) ?_
            refine lv_iload_n hx hb d_R_move_59 rfl (lv_at hl 2 rfl) ?_
            by_cases ck_60 : zin a0 4
            · have hres := zi_p ck_60 hres
              refine va_iast hx hb hK hP hD hS 16 15 rfl rfl ck_60 d_R_move_60 (fun H locs hP hD hS => ?_)
              have hP : va_P D vwCl ([(q 0, .inr (4, [.ref (q 1), .ref (q 2), .ref (q 3), .ref (q 4), .ref (q 5), .ref (q 6), .ref (q 7), .ref (q 8), .ref (q 9), .ref (q 10), .ref (q 11), .int ρ.1.2.2.2, .ref (q 12), .ref (q 13), .ref (q 14), .ref (q 15), .ref (q 16), .ref (q 17), .int ρ.2.2.1.1.1, .ref (q 18), .ref (q 19), .ref (q 20), .ref (q 21)])), (q 1, .inl (cR 1, 67, .inr (.inl ρ.1.1.1.1.1))), (q 2, .inl (cR 2, 67, .inl ρ.1.1.1.1.2)), (q 3, .inl (cR 3, 67, .inl ρ.1.1.1.2)), (q 4, .inl (cR 4, 67, .inl ρ.1.1.2.1.1)), (q 5, .inl (cR 5, 67, .inr (.inl ρ.1.1.2.1.2))), (q 6, .inl (cR 6, 67, .inl ρ.1.1.2.2)), (q 7, .inl (cR 7, 536, .inl ρ.1.2.1.1.1)), (q 8, .inl (cR 8, 67, .inl ρ.1.2.1.1.2)), (q 9, .inl (cR 9, 67, .inr (.inl ρ.1.2.1.2))), (q 10, .inl (cR 10, 67, .inr (.inl ρ.1.2.2.1.1))), (q 11, .inl (cR 11, 67, .inl ρ.1.2.2.1.2)), (q 12, .inl (cR 12, 60, .inl ρ.2.1.1.1.1)), (q 13, .inl (cR 13, 60, .inl ρ.2.1.1.1.2)), (q 14, .inl (cR 14, 60, .inr (.inl ρ.2.1.1.2))), (q 15, .inl (cR 15, 60, .inr (.inl ρ.2.1.2.1.1))), (q 16, .inl (cR 16, 4, .inl (upd ρ.2.1.2.1.2 a0.toNatClampNeg a1))), (q 17, .inl (cR 17, 4, .inl ρ.2.1.2.2)), (q 18, .inl (cR 18, 100, .inl ρ.2.2.1.1.2)), (q 19, .inl (cR 19, 5, .inl ρ.2.2.1.2)), (q 20, .inl (cR 20, 5, .inl ρ.2.2.2.1)), (q 21, .inl (cR 21, 5, .inl ρ.2.2.2.2))]) H := hP
              have hD : va_D A ([(q 0, .inr (4, [.ref (q 1), .ref (q 2), .ref (q 3), .ref (q 4), .ref (q 5), .ref (q 6), .ref (q 7), .ref (q 8), .ref (q 9), .ref (q 10), .ref (q 11), .int ρ.1.2.2.2, .ref (q 12), .ref (q 13), .ref (q 14), .ref (q 15), .ref (q 16), .ref (q 17), .int ρ.2.2.1.1.1, .ref (q 18), .ref (q 19), .ref (q 20), .ref (q 21)])), (q 1, .inl (cR 1, 67, .inr (.inl ρ.1.1.1.1.1))), (q 2, .inl (cR 2, 67, .inl ρ.1.1.1.1.2)), (q 3, .inl (cR 3, 67, .inl ρ.1.1.1.2)), (q 4, .inl (cR 4, 67, .inl ρ.1.1.2.1.1)), (q 5, .inl (cR 5, 67, .inr (.inl ρ.1.1.2.1.2))), (q 6, .inl (cR 6, 67, .inl ρ.1.1.2.2)), (q 7, .inl (cR 7, 536, .inl ρ.1.2.1.1.1)), (q 8, .inl (cR 8, 67, .inl ρ.1.2.1.1.2)), (q 9, .inl (cR 9, 67, .inr (.inl ρ.1.2.1.2))), (q 10, .inl (cR 10, 67, .inr (.inl ρ.1.2.2.1.1))), (q 11, .inl (cR 11, 67, .inl ρ.1.2.2.1.2)), (q 12, .inl (cR 12, 60, .inl ρ.2.1.1.1.1)), (q 13, .inl (cR 13, 60, .inl ρ.2.1.1.1.2)), (q 14, .inl (cR 14, 60, .inr (.inl ρ.2.1.1.2))), (q 15, .inl (cR 15, 60, .inr (.inl ρ.2.1.2.1.1))), (q 16, .inl (cR 16, 4, .inl (upd ρ.2.1.2.1.2 a0.toNatClampNeg a1))), (q 17, .inl (cR 17, 4, .inl ρ.2.1.2.2)), (q 18, .inl (cR 18, 100, .inl ρ.2.2.1.1.2)), (q 19, .inl (cR 19, 5, .inl ρ.2.2.1.2)), (q 20, .inl (cR 20, 5, .inl ρ.2.2.2.1)), (q 21, .inl (cR 21, 5, .inl ρ.2.2.2.2))]) := hD
              obtain rfl := Option.some.inj hres
              exact W.vret hx hb hr (fun t ht hW => ⟨⟨(), rfl, trivial, by rw [ht]; exact hP, va_K.moved hW.alike hK, hD⟩, hS.F ht⟩) hS.2.2 d_R_move_61
            · exact absurd (zi_n ck_60 hres) (by simp)
          · have hres := zi_n c_25 hres
            refine lv_aload_n hx hb d_R_move_28 rfl (lv_at hl 0 rfl) ?_
            refine va_get (D := D) (ci := 4) (v := .ref (q 18)) (C := R_R) (T := T_R) (N := 23) hx hb hts in_R hown hK hP (0) rfl rfl 19 (by decide) (hts _ k_447) (fun _ h9 => h9) rfl d_R_move_29 ?_
            refine lv_aload_n hx hb d_R_move_32 rfl (lv_at hl 0 rfl) ?_
            refine va_get (D := D) (ci := 4) (v := .int ρ.2.2.1.1.1) (C := R_R) (T := T_R) (N := 23) hx hb hts in_R hown hK hP (0) rfl rfl 18 (by decide) (hts _ k_446) (fun _ h9 => h9) rfl d_R_move_33 ?_
            refine lv_iload_n hx hb d_R_move_36 rfl (lv_at hl 1 rfl) ?_
            refine lv_iconst (v := 4) hx hb d_R_move_37 (by decide) ?_
            refine lv_iload_n hx hb d_R_move_38 rfl (lv_at hl 2 rfl) ?_
            refine lv_iconst (v := 1) hx hb d_R_move_39 (by decide) ?_
            refine lv_iadd hx hb d_R_move_40 ?_
            refine lv_imul hx hb d_R_move_41 ?_
            refine lv_iadd hx hb d_R_move_42 ?_
            by_cases ck_43 : zin ρ.2.2.1.1.1 100
            · have hres := zi_p ck_43 hres
              refine va_iast hx hb hK hP hD hS 18 17 rfl rfl ck_43 d_R_move_43 (fun H locs hP hD hS => ?_)
              have hP : va_P D vwCl ([(q 0, .inr (4, [.ref (q 1), .ref (q 2), .ref (q 3), .ref (q 4), .ref (q 5), .ref (q 6), .ref (q 7), .ref (q 8), .ref (q 9), .ref (q 10), .ref (q 11), .int ρ.1.2.2.2, .ref (q 12), .ref (q 13), .ref (q 14), .ref (q 15), .ref (q 16), .ref (q 17), .int ρ.2.2.1.1.1, .ref (q 18), .ref (q 19), .ref (q 20), .ref (q 21)])), (q 1, .inl (cR 1, 67, .inr (.inl ρ.1.1.1.1.1))), (q 2, .inl (cR 2, 67, .inl ρ.1.1.1.1.2)), (q 3, .inl (cR 3, 67, .inl ρ.1.1.1.2)), (q 4, .inl (cR 4, 67, .inl ρ.1.1.2.1.1)), (q 5, .inl (cR 5, 67, .inr (.inl ρ.1.1.2.1.2))), (q 6, .inl (cR 6, 67, .inl ρ.1.1.2.2)), (q 7, .inl (cR 7, 536, .inl ρ.1.2.1.1.1)), (q 8, .inl (cR 8, 67, .inl ρ.1.2.1.1.2)), (q 9, .inl (cR 9, 67, .inr (.inl ρ.1.2.1.2))), (q 10, .inl (cR 10, 67, .inr (.inl ρ.1.2.2.1.1))), (q 11, .inl (cR 11, 67, .inl ρ.1.2.2.1.2)), (q 12, .inl (cR 12, 60, .inl ρ.2.1.1.1.1)), (q 13, .inl (cR 13, 60, .inl ρ.2.1.1.1.2)), (q 14, .inl (cR 14, 60, .inr (.inl ρ.2.1.1.2))), (q 15, .inl (cR 15, 60, .inr (.inl ρ.2.1.2.1.1))), (q 16, .inl (cR 16, 4, .inl ρ.2.1.2.1.2)), (q 17, .inl (cR 17, 4, .inl ρ.2.1.2.2)), (q 18, .inl (cR 18, 100, .inl (upd ρ.2.2.1.1.2 ρ.2.2.1.1.1.toNatClampNeg (a0 + (4 * (a1 + 1)))))), (q 19, .inl (cR 19, 5, .inl ρ.2.2.1.2)), (q 20, .inl (cR 20, 5, .inl ρ.2.2.2.1)), (q 21, .inl (cR 21, 5, .inl ρ.2.2.2.2))]) H := hP
              have hD : va_D A ([(q 0, .inr (4, [.ref (q 1), .ref (q 2), .ref (q 3), .ref (q 4), .ref (q 5), .ref (q 6), .ref (q 7), .ref (q 8), .ref (q 9), .ref (q 10), .ref (q 11), .int ρ.1.2.2.2, .ref (q 12), .ref (q 13), .ref (q 14), .ref (q 15), .ref (q 16), .ref (q 17), .int ρ.2.2.1.1.1, .ref (q 18), .ref (q 19), .ref (q 20), .ref (q 21)])), (q 1, .inl (cR 1, 67, .inr (.inl ρ.1.1.1.1.1))), (q 2, .inl (cR 2, 67, .inl ρ.1.1.1.1.2)), (q 3, .inl (cR 3, 67, .inl ρ.1.1.1.2)), (q 4, .inl (cR 4, 67, .inl ρ.1.1.2.1.1)), (q 5, .inl (cR 5, 67, .inr (.inl ρ.1.1.2.1.2))), (q 6, .inl (cR 6, 67, .inl ρ.1.1.2.2)), (q 7, .inl (cR 7, 536, .inl ρ.1.2.1.1.1)), (q 8, .inl (cR 8, 67, .inl ρ.1.2.1.1.2)), (q 9, .inl (cR 9, 67, .inr (.inl ρ.1.2.1.2))), (q 10, .inl (cR 10, 67, .inr (.inl ρ.1.2.2.1.1))), (q 11, .inl (cR 11, 67, .inl ρ.1.2.2.1.2)), (q 12, .inl (cR 12, 60, .inl ρ.2.1.1.1.1)), (q 13, .inl (cR 13, 60, .inl ρ.2.1.1.1.2)), (q 14, .inl (cR 14, 60, .inr (.inl ρ.2.1.1.2))), (q 15, .inl (cR 15, 60, .inr (.inl ρ.2.1.2.1.1))), (q 16, .inl (cR 16, 4, .inl ρ.2.1.2.1.2)), (q 17, .inl (cR 17, 4, .inl ρ.2.1.2.2)), (q 18, .inl (cR 18, 100, .inl (upd ρ.2.2.1.1.2 ρ.2.2.1.1.1.toNatClampNeg (a0 + (4 * (a1 + 1)))))), (q 19, .inl (cR 19, 5, .inl ρ.2.2.1.2)), (q 20, .inl (cR 20, 5, .inl ρ.2.2.2.1)), (q 21, .inl (cR 21, 5, .inl ρ.2.2.2.2))]) := hD
              refine lv_aload_n hx hb d_R_move_44 rfl (lv_at hl 0 rfl) ?_
              refine lv_dup hx hb d_R_move_45 rfl ?_
              refine va_get (D := D) (ci := 4) (v := .int ρ.2.2.1.1.1) (C := R_R) (T := T_R) (N := 23) hx hb hts in_R hown hK hP (0) rfl rfl 18 (by decide) (hts _ k_446) (fun _ h9 => h9) rfl d_R_move_46 ?_
              refine lv_iconst (v := 1) hx hb d_R_move_49 (by decide) ?_
              refine lv_iadd hx hb d_R_move_50 ?_
              refine va_put (D := D) (ci := 4) (v := .int (ρ.2.2.1.1.1 + 1)) (ty := .int) (C := R_R) (T := T_R) (N := 23) hx hb hts in_R ty_R ok_R nm_R hown hK hP hD hS 0 rfl rfl 18 (by decide) (hts _ k_446) (fun _ h9 => h9) rfl (by decide +kernel) rfl rfl (Nat.le_of_ble_eq_true rfl) d_R_move_51 (fun H locs hP hD hS => ?_)
              have hP : va_P D vwCl ([(q 0, .inr (4, [.ref (q 1), .ref (q 2), .ref (q 3), .ref (q 4), .ref (q 5), .ref (q 6), .ref (q 7), .ref (q 8), .ref (q 9), .ref (q 10), .ref (q 11), .int ρ.1.2.2.2, .ref (q 12), .ref (q 13), .ref (q 14), .ref (q 15), .ref (q 16), .ref (q 17), .int (ρ.2.2.1.1.1 + 1), .ref (q 18), .ref (q 19), .ref (q 20), .ref (q 21)])), (q 1, .inl (cR 1, 67, .inr (.inl ρ.1.1.1.1.1))), (q 2, .inl (cR 2, 67, .inl ρ.1.1.1.1.2)), (q 3, .inl (cR 3, 67, .inl ρ.1.1.1.2)), (q 4, .inl (cR 4, 67, .inl ρ.1.1.2.1.1)), (q 5, .inl (cR 5, 67, .inr (.inl ρ.1.1.2.1.2))), (q 6, .inl (cR 6, 67, .inl ρ.1.1.2.2)), (q 7, .inl (cR 7, 536, .inl ρ.1.2.1.1.1)), (q 8, .inl (cR 8, 67, .inl ρ.1.2.1.1.2)), (q 9, .inl (cR 9, 67, .inr (.inl ρ.1.2.1.2))), (q 10, .inl (cR 10, 67, .inr (.inl ρ.1.2.2.1.1))), (q 11, .inl (cR 11, 67, .inl ρ.1.2.2.1.2)), (q 12, .inl (cR 12, 60, .inl ρ.2.1.1.1.1)), (q 13, .inl (cR 13, 60, .inl ρ.2.1.1.1.2)), (q 14, .inl (cR 14, 60, .inr (.inl ρ.2.1.1.2))), (q 15, .inl (cR 15, 60, .inr (.inl ρ.2.1.2.1.1))), (q 16, .inl (cR 16, 4, .inl ρ.2.1.2.1.2)), (q 17, .inl (cR 17, 4, .inl ρ.2.1.2.2)), (q 18, .inl (cR 18, 100, .inl (upd ρ.2.2.1.1.2 ρ.2.2.1.1.1.toNatClampNeg (a0 + (4 * (a1 + 1)))))), (q 19, .inl (cR 19, 5, .inl ρ.2.2.1.2)), (q 20, .inl (cR 20, 5, .inl ρ.2.2.2.1)), (q 21, .inl (cR 21, 5, .inl ρ.2.2.2.2))]) H := hP
              have hD : va_D A ([(q 0, .inr (4, [.ref (q 1), .ref (q 2), .ref (q 3), .ref (q 4), .ref (q 5), .ref (q 6), .ref (q 7), .ref (q 8), .ref (q 9), .ref (q 10), .ref (q 11), .int ρ.1.2.2.2, .ref (q 12), .ref (q 13), .ref (q 14), .ref (q 15), .ref (q 16), .ref (q 17), .int (ρ.2.2.1.1.1 + 1), .ref (q 18), .ref (q 19), .ref (q 20), .ref (q 21)])), (q 1, .inl (cR 1, 67, .inr (.inl ρ.1.1.1.1.1))), (q 2, .inl (cR 2, 67, .inl ρ.1.1.1.1.2)), (q 3, .inl (cR 3, 67, .inl ρ.1.1.1.2)), (q 4, .inl (cR 4, 67, .inl ρ.1.1.2.1.1)), (q 5, .inl (cR 5, 67, .inr (.inl ρ.1.1.2.1.2))), (q 6, .inl (cR 6, 67, .inl ρ.1.1.2.2)), (q 7, .inl (cR 7, 536, .inl ρ.1.2.1.1.1)), (q 8, .inl (cR 8, 67, .inl ρ.1.2.1.1.2)), (q 9, .inl (cR 9, 67, .inr (.inl ρ.1.2.1.2))), (q 10, .inl (cR 10, 67, .inr (.inl ρ.1.2.2.1.1))), (q 11, .inl (cR 11, 67, .inl ρ.1.2.2.1.2)), (q 12, .inl (cR 12, 60, .inl ρ.2.1.1.1.1)), (q 13, .inl (cR 13, 60, .inl ρ.2.1.1.1.2)), (q 14, .inl (cR 14, 60, .inr (.inl ρ.2.1.1.2))), (q 15, .inl (cR 15, 60, .inr (.inl ρ.2.1.2.1.1))), (q 16, .inl (cR 16, 4, .inl ρ.2.1.2.1.2)), (q 17, .inl (cR 17, 4, .inl ρ.2.1.2.2)), (q 18, .inl (cR 18, 100, .inl (upd ρ.2.2.1.1.2 ρ.2.2.1.1.1.toNatClampNeg (a0 + (4 * (a1 + 1)))))), (q 19, .inl (cR 19, 5, .inl ρ.2.2.1.2)), (q 20, .inl (cR 20, 5, .inl ρ.2.2.2.1)), (q 21, .inl (cR 21, 5, .inl ρ.2.2.2.2))]) := hD
              refine lv_aload_n hx hb d_R_move_54 rfl (lv_at hl 0 rfl) ?_
              refine va_get (D := D) (ci := 4) (v := .ref (q 16)) (C := R_R) (T := T_R) (N := 23) hx hb hts in_R hown hK hP (0) rfl rfl 16 (by decide) (hts _ k_444) (fun _ h9 => h9) rfl d_R_move_55 ?_
              refine lv_iload_n hx hb d_R_move_58 rfl (lv_at hl 1 rfl) ?_
              refine lv_iload_n hx hb d_R_move_59 rfl (lv_at hl 2 rfl) ?_
              by_cases ck_60 : zin a0 4
              · have hres := zi_p ck_60 hres
                refine va_iast hx hb hK hP hD hS 16 15 rfl rfl ck_60 d_R_move_60 (fun H locs hP hD hS => ?_)
                have hP : va_P D vwCl ([(q 0, .inr (4, [.ref (q 1), .ref (q 2), .ref (q 3), .ref (q 4), .ref (q 5), .ref (q 6), .ref (q 7), .ref (q 8), .ref (q 9), .ref (q 10), .ref (q 11), .int ρ.1.2.2.2, .ref (q 12), .ref (q 13), .ref (q 14), .ref (q 15), .ref (q 16), .ref (q 17), .int (ρ.2.2.1.1.1 + 1), .ref (q 18), .ref (q 19), .ref (q 20), .ref (q 21)])), (q 1, .inl (cR 1, 67, .inr (.inl ρ.1.1.1.1.1))), (q 2, .inl (cR 2, 67, .inl ρ.1.1.1.1.2)), (q 3, .inl (cR 3, 67, .inl ρ.1.1.1.2)), (q 4, .inl (cR 4, 67, .inl ρ.1.1.2.1.1)), (q 5, .inl (cR 5, 67, .inr (.inl ρ.1.1.2.1.2))), (q 6, .inl (cR 6, 67, .inl ρ.1.1.2.2)), (q 7, .inl (cR 7, 536, .inl ρ.1.2.1.1.1)), (q 8, .inl (cR 8, 67, .inl ρ.1.2.1.1.2)), (q 9, .inl (cR 9, 67, .inr (.inl ρ.1.2.1.2))), (q 10, .inl (cR 10, 67, .inr (.inl ρ.1.2.2.1.1))), (q 11, .inl (cR 11, 67, .inl ρ.1.2.2.1.2)), (q 12, .inl (cR 12, 60, .inl ρ.2.1.1.1.1)), (q 13, .inl (cR 13, 60, .inl ρ.2.1.1.1.2)), (q 14, .inl (cR 14, 60, .inr (.inl ρ.2.1.1.2))), (q 15, .inl (cR 15, 60, .inr (.inl ρ.2.1.2.1.1))), (q 16, .inl (cR 16, 4, .inl (upd ρ.2.1.2.1.2 a0.toNatClampNeg a1))), (q 17, .inl (cR 17, 4, .inl ρ.2.1.2.2)), (q 18, .inl (cR 18, 100, .inl (upd ρ.2.2.1.1.2 ρ.2.2.1.1.1.toNatClampNeg (a0 + (4 * (a1 + 1)))))), (q 19, .inl (cR 19, 5, .inl ρ.2.2.1.2)), (q 20, .inl (cR 20, 5, .inl ρ.2.2.2.1)), (q 21, .inl (cR 21, 5, .inl ρ.2.2.2.2))]) H := hP
                have hD : va_D A ([(q 0, .inr (4, [.ref (q 1), .ref (q 2), .ref (q 3), .ref (q 4), .ref (q 5), .ref (q 6), .ref (q 7), .ref (q 8), .ref (q 9), .ref (q 10), .ref (q 11), .int ρ.1.2.2.2, .ref (q 12), .ref (q 13), .ref (q 14), .ref (q 15), .ref (q 16), .ref (q 17), .int (ρ.2.2.1.1.1 + 1), .ref (q 18), .ref (q 19), .ref (q 20), .ref (q 21)])), (q 1, .inl (cR 1, 67, .inr (.inl ρ.1.1.1.1.1))), (q 2, .inl (cR 2, 67, .inl ρ.1.1.1.1.2)), (q 3, .inl (cR 3, 67, .inl ρ.1.1.1.2)), (q 4, .inl (cR 4, 67, .inl ρ.1.1.2.1.1)), (q 5, .inl (cR 5, 67, .inr (.inl ρ.1.1.2.1.2))), (q 6, .inl (cR 6, 67, .inl ρ.1.1.2.2)), (q 7, .inl (cR 7, 536, .inl ρ.1.2.1.1.1)), (q 8, .inl (cR 8, 67, .inl ρ.1.2.1.1.2)), (q 9, .inl (cR 9, 67, .inr (.inl ρ.1.2.1.2))), (q 10, .inl (cR 10, 67, .inr (.inl ρ.1.2.2.1.1))), (q 11, .inl (cR 11, 67, .inl ρ.1.2.2.1.2)), (q 12, .inl (cR 12, 60, .inl ρ.2.1.1.1.1)), (q 13, .inl (cR 13, 60, .inl ρ.2.1.1.1.2)), (q 14, .inl (cR 14, 60, .inr (.inl ρ.2.1.1.2))), (q 15, .inl (cR 15, 60, .inr (.inl ρ.2.1.2.1.1))), (q 16, .inl (cR 16, 4, .inl (upd ρ.2.1.2.1.2 a0.toNatClampNeg a1))), (q 17, .inl (cR 17, 4, .inl ρ.2.1.2.2)), (q 18, .inl (cR 18, 100, .inl (upd ρ.2.2.1.1.2 ρ.2.2.1.1.1.toNatClampNeg (a0 + (4 * (a1 + 1)))))), (q 19, .inl (cR 19, 5, .inl ρ.2.2.1.2)), (q 20, .inl (cR 20, 5, .inl ρ.2.2.2.1)), (q 21, .inl (cR 21, 5, .inl ρ.2.2.2.2))]) := hD
                obtain rfl := Option.some.inj hres
                exact W.vret hx hb hr (fun t ht hW => ⟨⟨(), rfl, trivial, by rw [ht]; exact hP, va_K.moved hW.alike hK, hD⟩, hS.F ht⟩) hS.2.2 d_R_move_61
              · exact absurd (zi_n ck_60 hres) (by simp)
            · exact absurd (zi_n ck_43 hres) (by simp)
      · exact absurd (zi_n ck_14 hres) (by simp)
  · exact absurd (zi_n ck_5 hres) (by simp)
def f_R_optionTorn (ρ : RSt) (a0 : Int32) (a1 : Int32) (a2 : Int32) : Option (Int32) :=
  if zin a1 67 then
    if zin a2 67 then
      if (ρ.1.2.1.1.2 a1.toNatClampNeg) = (ρ.1.2.1.1.2 a2.toNatClampNeg) then
        some 0
      else
        if zin a0 67 then
          if (ρ.1.2.1.1.2 a0.toNatClampNeg) = 0 then
            some 0
          else
            if zin a0 67 then
              if zin a1 67 then
                if (ρ.1.2.1.1.2 a1.toNatClampNeg) = 0 then
                  if zin a2 67 then
                    if (lg_cmp (ρ.1.2.1.2 a0.toNatClampNeg) (ρ.1.2.1.2 a2.toNatClampNeg)) = 0 then
                      some 0
                    else
                      some 1
                  else
                    none
                else
                  if zin a1 67 then
                    if (lg_cmp (ρ.1.2.1.2 a0.toNatClampNeg) (ρ.1.2.1.2 a1.toNatClampNeg)) = 0 then
                      some 0
                    else
                      some 1
                  else
                    none
              else
                none
            else
              none
        else
          none
    else
      none
  else
    none
set_option maxHeartbeats 4000000 in
set_option maxRecDepth 100000 in
theorem c_R_optionTorn (l : Launch) (D : va_G) (tys : List (ClassId × FieldType)) (q : Nat → Nat) (cR : Nat → ClassId) (ρ : RSt) (a0 : Int32) (a1 : Int32) (a2 : Int32) (v : Int32) (hres : f_R_optionTorn ρ a0 a1 a2 = some v) : Met l y_R_optionTorn w_R_optionTorn ({ frames := 0, cells := 0, slots := 0, locals := 0 } : Room) (va_Pc ([.ref (q 0), .int a0, .int a1, .int a2]) (zro D (zRt cR) (zR q cR ρ))) (vp_Si (fun r : Int32 => r = v)) 0 0 (fun _ => False) := by
  refine Met.ofW (cc := b_R_optionTorn) (maxL := 4) (ret := (some .boolean)) (by decide) rfl ?_
  intro p e s m args below meth c s₁ B hml hv
  obtain ⟨rfl, hP, hK, hN⟩ := hv
  have hx := B.exec
  have hb := B.bytes
  have hr := B.returns
  have hts : ∀ w ∈ zt, w.before ([.ref (q 0), .int a0, .int a1, .int a2].toArray) s = true := fun w h => atoms_spec (ws := w_R_optionTorn) B.pre w (List.mem_cons_of_mem _ h)
  have hown : s.vm.findClass R_R = some m.cls := findClass_of_methodNamed B.named
  have hlocks := B.notSynchronized
  have hl := lv_entry ([.ref (q 0), .int a0, .int a1, .int a2]) (n := 4) (Nat.le_of_ble_eq_true rfl)
  rw [lg_entry_eq]
  generalize (lg_sl ([.ref (q 0), .int a0, .int a1, .int a2]) ++ List.replicate (4 - (lg_sl ([.ref (q 0), .int a0, .int a1, .int a2])).length) Slot.unset).toArray = ls at hl ⊢
  have hl : lv_has ls 4 [(0, .ref (q 0)), (1, .int a0), (2, .int a1), (3, .int a2)] := hl
  unfold f_R_optionTorn at hres
  refine lv_aload_n hx hb d_R_optionTorn_0 rfl (lv_at hl 0 rfl) ?_
  refine va_get (D := D) (ci := 4) (v := .ref (q 8)) (C := R_R) (T := T_R) (N := 23) hx hb hts in_R hown hK hP (0) rfl rfl 7 (by decide) (hts _ k_435) (fun _ h9 => h9) rfl d_R_optionTorn_1 ?_
  refine lv_iload_n hx hb d_R_optionTorn_4 rfl (lv_at hl 2 rfl) ?_
  by_cases ck_5 : zin a1 67
  · have hres := zi_p ck_5 hres
    refine va_zald hx hb hK hP 8 7 rfl rfl ck_5 d_R_optionTorn_5 ?_
    refine lv_aload_n hx hb d_R_optionTorn_6 rfl (lv_at hl 0 rfl) ?_
    refine va_get (D := D) (ci := 4) (v := .ref (q 8)) (C := R_R) (T := T_R) (N := 23) hx hb hts in_R hown hK hP (0) rfl rfl 7 (by decide) (hts _ k_435) (fun _ h9 => h9) rfl d_R_optionTorn_7 ?_
    refine lv_iload_n hx hb d_R_optionTorn_10 rfl (lv_at hl 3 rfl) ?_
    by_cases ck_11 : zin a2 67
    · have hres := zi_p ck_11 hres
      refine va_zald hx hb hK hP 8 7 rfl rfl ck_11 d_R_optionTorn_11 ?_
      refine lv_icmp_ne (tgt := 17) hx hb d_R_optionTorn_12 (by decide) (fun c_12 => ?_) (fun c_12 => ?_)
      · have hres := zi_n c_12 hres
        refine lv_aload_n hx hb d_R_optionTorn_17 rfl (lv_at hl 0 rfl) ?_
        refine va_get (D := D) (ci := 4) (v := .ref (q 8)) (C := R_R) (T := T_R) (N := 23) hx hb hts in_R hown hK hP (0) rfl rfl 7 (by decide) (hts _ k_435) (fun _ h9 => h9) rfl d_R_optionTorn_18 ?_
        refine lv_iload_n hx hb d_R_optionTorn_21 rfl (lv_at hl 1 rfl) ?_
        by_cases ck_22 : zin a0 67
        · have hres := zi_p ck_22 hres
          refine va_zald hx hb hK hP 8 7 rfl rfl ck_22 d_R_optionTorn_22 ?_
          refine lv_if_eq (tgt := 64) hx hb d_R_optionTorn_23 (by decide) (fun c_23 => ?_) (fun c_23 => ?_)
          · have hres := zi_p c_23 hres
            refine lv_iconst (v := 0) hx hb d_R_optionTorn_64 (by decide) ?_
            obtain rfl := Option.some.inj hres
            exact W.zret (v := 0) (ty := .boolean) hx hb hr rfl (fun t ht hW => ⟨_, rfl, rfl, ht⟩) (fun _ hq => by cases hq) d_R_optionTorn_65
          · have hres := zi_n c_23 hres
            refine lv_aload_n hx hb d_R_optionTorn_26 rfl (lv_at hl 0 rfl) ?_
            refine va_get (D := D) (ci := 4) (v := .ref (q 9)) (C := R_R) (T := T_R) (N := 23) hx hb hts in_R hown hK hP (0) rfl rfl 8 (by decide) (hts _ k_436) (fun _ h9 => h9) rfl d_R_optionTorn_27 ?_
            refine lv_iload_n hx hb d_R_optionTorn_30 rfl (lv_at hl 1 rfl) ?_
            by_cases ck_31 : zin a0 67
            · have hres := zi_p ck_31 hres
              refine va_lald hx hb hK hP 9 8 rfl rfl ck_31 d_R_optionTorn_31 ?_
              refine lv_aload_n hx hb d_R_optionTorn_32 rfl (lv_at hl 0 rfl) ?_
              refine va_get (D := D) (ci := 4) (v := .ref (q 8)) (C := R_R) (T := T_R) (N := 23) hx hb hts in_R hown hK hP (0) rfl rfl 7 (by decide) (hts _ k_435) (fun _ h9 => h9) rfl d_R_optionTorn_33 ?_
              refine lv_iload_n hx hb d_R_optionTorn_36 rfl (lv_at hl 2 rfl) ?_
              by_cases ck_37 : zin a1 67
              · have hres := zi_p ck_37 hres
                refine va_zald hx hb hK hP 8 7 rfl rfl ck_37 d_R_optionTorn_37 ?_
                refine lv_if_eq (tgt := 50) hx hb d_R_optionTorn_38 (by decide) (fun c_38 => ?_) (fun c_38 => ?_)
                · have hres := zi_p c_38 hres
                  refine lv_aload_n hx hb d_R_optionTorn_50 rfl (lv_at hl 0 rfl) ?_
                  refine va_get (D := D) (ci := 4) (v := .ref (q 9)) (C := R_R) (T := T_R) (N := 23) hx hb hts in_R hown hK hP (0) rfl rfl 8 (by decide) (hts _ k_436) (fun _ h9 => h9) rfl d_R_optionTorn_51 ?_
                  refine lv_iload_n hx hb d_R_optionTorn_54 rfl (lv_at hl 3 rfl) ?_
                  by_cases ck_55 : zin a2 67
                  · have hres := zi_p ck_55 hres
                    refine va_lald hx hb hK hP 9 8 rfl rfl ck_55 d_R_optionTorn_55 ?_
                    refine W.lcmp hx hb d_R_optionTorn_56 ?_
                    refine lv_if_eq (tgt := 64) hx hb d_R_optionTorn_57 (by decide) (fun c_57 => ?_) (fun c_57 => ?_)
                    · have hres := zi_p c_57 hres
                      refine lv_iconst (v := 0) hx hb d_R_optionTorn_64 (by decide) ?_
                      obtain rfl := Option.some.inj hres
                      exact W.zret (v := 0) (ty := .boolean) hx hb hr rfl (fun t ht hW => ⟨_, rfl, rfl, ht⟩) (fun _ hq => by cases hq) d_R_optionTorn_65
                    · have hres := zi_n c_57 hres
                      refine lv_iconst (v := 1) hx hb d_R_optionTorn_60 (by decide) ?_
                      refine lv_goto (tgt := 65) hx hb d_R_optionTorn_61 (by decide) ?_
                      obtain rfl := Option.some.inj hres
                      exact W.zret (v := 1) (ty := .boolean) hx hb hr rfl (fun t ht hW => ⟨_, rfl, rfl, ht⟩) (fun _ hq => by cases hq) d_R_optionTorn_65
                  · exact absurd (zi_n ck_55 hres) (by simp)
                · have hres := zi_n c_38 hres
                  refine lv_aload_n hx hb d_R_optionTorn_41 rfl (lv_at hl 0 rfl) ?_
                  refine va_get (D := D) (ci := 4) (v := .ref (q 9)) (C := R_R) (T := T_R) (N := 23) hx hb hts in_R hown hK hP (0) rfl rfl 8 (by decide) (hts _ k_436) (fun _ h9 => h9) rfl d_R_optionTorn_42 ?_
                  refine lv_iload_n hx hb d_R_optionTorn_45 rfl (lv_at hl 2 rfl) ?_
                  by_cases ck_46 : zin a1 67
                  · have hres := zi_p ck_46 hres
                    refine va_lald hx hb hK hP 9 8 rfl rfl ck_46 d_R_optionTorn_46 ?_
                    refine lv_goto (tgt := 56) hx hb d_R_optionTorn_47 (by decide) ?_
                    refine W.lcmp hx hb d_R_optionTorn_56 ?_
                    refine lv_if_eq (tgt := 64) hx hb d_R_optionTorn_57 (by decide) (fun c_57 => ?_) (fun c_57 => ?_)
                    · have hres := zi_p c_57 hres
                      refine lv_iconst (v := 0) hx hb d_R_optionTorn_64 (by decide) ?_
                      obtain rfl := Option.some.inj hres
                      exact W.zret (v := 0) (ty := .boolean) hx hb hr rfl (fun t ht hW => ⟨_, rfl, rfl, ht⟩) (fun _ hq => by cases hq) d_R_optionTorn_65
                    · have hres := zi_n c_57 hres
                      refine lv_iconst (v := 1) hx hb d_R_optionTorn_60 (by decide) ?_
                      refine lv_goto (tgt := 65) hx hb d_R_optionTorn_61 (by decide) ?_
                      obtain rfl := Option.some.inj hres
                      exact W.zret (v := 1) (ty := .boolean) hx hb hr rfl (fun t ht hW => ⟨_, rfl, rfl, ht⟩) (fun _ hq => by cases hq) d_R_optionTorn_65
                  · exact absurd (zi_n ck_46 hres) (by simp)
              · exact absurd (zi_n ck_37 hres) (by simp)
            · exact absurd (zi_n ck_31 hres) (by simp)
        · exact absurd (zi_n ck_22 hres) (by simp)
      · have hres := zi_p c_12 hres
        refine lv_iconst (v := 0) hx hb d_R_optionTorn_15 (by decide) ?_
        obtain rfl := Option.some.inj hres
        exact W.zret (v := 0) (ty := .boolean) hx hb hr rfl (fun t ht hW => ⟨_, rfl, rfl, ht⟩) (fun _ hq => by cases hq) d_R_optionTorn_16
    · exact absurd (zi_n ck_11 hres) (by simp)
  · exact absurd (zi_n ck_5 hres) (by simp)
def f_R_parent (ρ : RSt) (a0 : Int32) (a1 : Int32) : Option (Int32) :=
  Option.bind (f_R_isCommit ρ a0) (fun v2 =>
    if v2 = 0 then
      some (-1)
    else
      if a1 = 0 then
        if zin a0 60 then
          if 0 ≤ (ρ.2.1.1.1.1 a0.toNatClampNeg) then
            some (ρ.2.1.1.1.1 a0.toNatClampNeg)
          else
            some (-1)
        else
          none
      else
        if a1 = 1 then
          if zin a0 60 then
            if 0 ≤ (ρ.2.1.1.1.2 a0.toNatClampNeg) then
              some (ρ.2.1.1.1.2 a0.toNatClampNeg)
            else
              some (-1)
          else
            none
        else
          some (-1))
set_option maxHeartbeats 4000000 in
set_option maxRecDepth 100000 in
theorem c_R_parent (l : Launch) (D : va_G) (tys : List (ClassId × FieldType)) (q : Nat → Nat) (cR : Nat → ClassId) (ρ : RSt) (a0 : Int32) (a1 : Int32) (v : Int32) (hres : f_R_parent ρ a0 a1 = some v) : Met l y_R_parent w_R_parent ({ frames := 1, cells := 0, slots := 0, locals := 21 } : Room) (va_Pc ([.ref (q 0), .int a0, .int a1]) (zro D (zRt cR) (zR q cR ρ))) (vp_Si (fun r : Int32 => r = v)) 0 0 (fun _ => False) := by
  refine Met.ofW (cc := b_R_parent) (maxL := 4) (ret := (some .int)) (by decide) rfl ?_
  intro p e s m args below meth c s₁ B hml hv
  obtain ⟨rfl, hP, hK, hN⟩ := hv
  have hx := B.exec
  have hb := B.bytes
  have hr := B.returns
  have hts : ∀ w ∈ zt, w.before ([.ref (q 0), .int a0, .int a1].toArray) s = true := fun w h => atoms_spec (ws := w_R_parent) B.pre w (List.mem_cons_of_mem _ h)
  have hown : s.vm.findClass R_R = some m.cls := findClass_of_methodNamed B.named
  have hlocks := B.notSynchronized
  have hl := lv_entry ([.ref (q 0), .int a0, .int a1]) (n := 4) (Nat.le_of_ble_eq_true rfl)
  rw [lg_entry_eq]
  generalize (lg_sl ([.ref (q 0), .int a0, .int a1]) ++ List.replicate (4 - (lg_sl ([.ref (q 0), .int a0, .int a1])).length) Slot.unset).toArray = ls at hl ⊢
  have hl : lv_has ls 4 [(0, .ref (q 0)), (1, .int a0), (2, .int a1)] := hl
  unfold f_R_parent at hres
  refine lv_aload_n hx hb d_R_parent_0 rfl (lv_at hl 0 rfl) ?_
  refine lv_iload_n hx hb d_R_parent_1 rfl (lv_at hl 1 rfl) ?_
  obtain ⟨v2, hc2, hres⟩ := zo_b hres
  refine vp_callSi (va_Run.run (va_runV (As := [.int a0]) (rest := []) ⟨hx, hb, hml, hown, hts⟩ (c_R_isCommit l D (zRt cR) q cR ρ a0 v2 hc2) (cwV 1 hts (zg_V k_551 k_553 k_16 k_32 g_R_isCommit) rfl rfl rfl ⟨rfl, hd_R_isCommit⟩ ⟨Nat.le_of_ble_eq_true rfl, Nat.le_of_ble_eq_true rfl⟩) ⟨zro_b _, va_recv hK hP (q0 := 0) rfl rfl, zro_p hP hK hN _⟩ rfl rfl hl.1 rfl (lv_room (Nat.le_of_ble_eq_true rfl)) d_R_parent_2 ⟨Nat.zero_le _, Nat.zero_le _⟩)) (fun r_2 er_2 => ?_)
  have er_2 := er_2.symm
  subst er_2
  refine lv_if_ne (tgt := 12) hx hb d_R_parent_5 (by decide) (fun c_5 => ?_) (fun c_5 => ?_)
  · have hres := zi_n c_5 hres
    refine lv_iload_n hx hb d_R_parent_12 rfl (lv_at hl 2 rfl) ?_
    refine lv_if_ne (tgt := 25) hx hb d_R_parent_13 (by decide) (fun c_13 => ?_) (fun c_13 => ?_)
    · have hres := zi_n c_13 hres
      refine lv_iload_n hx hb d_R_parent_25 rfl (lv_at hl 2 rfl) ?_
      refine lv_iconst (v := 1) hx hb d_R_parent_26 (by decide) ?_
      refine lv_icmp_ne (tgt := 39) hx hb d_R_parent_27 (by decide) (fun c_27 => ?_) (fun c_27 => ?_)
      · have hres := zi_n c_27 hres
        refine lv_iconst (v := (-1)) hx hb d_R_parent_39 (by decide) ?_
        refine lv_istore_n (lv' := [(3, .int (-1)), (0, .ref (q 0)), (1, .int a0), (2, .int a1)]) hx hb d_R_parent_40 rfl hl (by decide) rfl (fun ls hl => ?_)
        refine lv_iload_n hx hb d_R_parent_41 rfl (lv_at hl 0 rfl) ?_
        refine lv_if_ge (tgt := 49) hx hb d_R_parent_42 (by decide) (fun c => absurd c (by decide)) (fun _ => ?_)
        refine lv_iconst (v := (-1)) hx hb d_R_parent_45 (by decide) ?_
        refine lv_goto (tgt := 50) hx hb d_R_parent_46 (by decide) ?_
        obtain rfl := Option.some.inj hres
        exact W.iret (v := (-1)) hx hb hr (fun t ht hW => ⟨_, rfl, rfl, ht⟩) (fun _ hq => by cases hq) d_R_parent_50
      · have hres := zi_p c_27 hres
        refine lv_aload_n hx hb d_R_parent_30 rfl (lv_at hl 0 rfl) ?_
        refine va_get (D := D) (ci := 4) (v := .ref (q 13)) (C := R_R) (T := T_R) (N := 23) hx hb hts in_R hown hK hP (0) rfl rfl 13 (by decide) (hts _ k_441) (fun _ h9 => h9) rfl d_R_parent_31 ?_
        refine lv_iload_n hx hb d_R_parent_34 rfl (lv_at hl 1 rfl) ?_
        by_cases ck_35 : zin a0 60
        · have hres := zi_p ck_35 hres
          refine va_iald hx hb hK hP 13 12 rfl rfl ck_35 d_R_parent_35 ?_
          refine lv_goto (tgt := 40) hx hb d_R_parent_36 (by decide) ?_
          refine lv_istore_n (lv' := [(3, .int (ρ.2.1.1.1.2 a0.toNatClampNeg)), (0, .ref (q 0)), (1, .int a0), (2, .int a1)]) hx hb d_R_parent_40 rfl hl (by decide) rfl (fun ls hl => ?_)
          refine lv_iload_n hx hb d_R_parent_41 rfl (lv_at hl 0 rfl) ?_
          refine lv_if_ge (tgt := 49) hx hb d_R_parent_42 (by decide) (fun c_42 => ?_) (fun c_42 => ?_)
          · have hres := zi_p c_42 hres
            refine lv_iload_n hx hb d_R_parent_49 rfl (lv_at hl 0 rfl) ?_
            obtain rfl := Option.some.inj hres
            exact W.iret (v := (ρ.2.1.1.1.2 a0.toNatClampNeg)) hx hb hr (fun t ht hW => ⟨_, rfl, rfl, ht⟩) (fun _ hq => by cases hq) d_R_parent_50
          · have hres := zi_n c_42 hres
            refine lv_iconst (v := (-1)) hx hb d_R_parent_45 (by decide) ?_
            refine lv_goto (tgt := 50) hx hb d_R_parent_46 (by decide) ?_
            obtain rfl := Option.some.inj hres
            exact W.iret (v := (-1)) hx hb hr (fun t ht hW => ⟨_, rfl, rfl, ht⟩) (fun _ hq => by cases hq) d_R_parent_50
        · exact absurd (zi_n ck_35 hres) (by simp)
    · have hres := zi_p c_13 hres
      refine lv_aload_n hx hb d_R_parent_16 rfl (lv_at hl 0 rfl) ?_
      refine va_get (D := D) (ci := 4) (v := .ref (q 12)) (C := R_R) (T := T_R) (N := 23) hx hb hts in_R hown hK hP (0) rfl rfl 12 (by decide) (hts _ k_440) (fun _ h9 => h9) rfl d_R_parent_17 ?_
      refine lv_iload_n hx hb d_R_parent_20 rfl (lv_at hl 1 rfl) ?_
      by_cases ck_21 : zin a0 60
      · have hres := zi_p ck_21 hres
        refine va_iald hx hb hK hP 12 11 rfl rfl ck_21 d_R_parent_21 ?_
        refine lv_goto (tgt := 40) hx hb d_R_parent_22 (by decide) ?_
        refine lv_istore_n (lv' := [(3, .int (ρ.2.1.1.1.1 a0.toNatClampNeg)), (0, .ref (q 0)), (1, .int a0), (2, .int a1)]) hx hb d_R_parent_40 rfl hl (by decide) rfl (fun ls hl => ?_)
        refine lv_iload_n hx hb d_R_parent_41 rfl (lv_at hl 0 rfl) ?_
        refine lv_if_ge (tgt := 49) hx hb d_R_parent_42 (by decide) (fun c_42 => ?_) (fun c_42 => ?_)
        · have hres := zi_p c_42 hres
          refine lv_iload_n hx hb d_R_parent_49 rfl (lv_at hl 0 rfl) ?_
          obtain rfl := Option.some.inj hres
          exact W.iret (v := (ρ.2.1.1.1.1 a0.toNatClampNeg)) hx hb hr (fun t ht hW => ⟨_, rfl, rfl, ht⟩) (fun _ hq => by cases hq) d_R_parent_50
        · have hres := zi_n c_42 hres
          refine lv_iconst (v := (-1)) hx hb d_R_parent_45 (by decide) ?_
          refine lv_goto (tgt := 50) hx hb d_R_parent_46 (by decide) ?_
          obtain rfl := Option.some.inj hres
          exact W.iret (v := (-1)) hx hb hr (fun t ht hW => ⟨_, rfl, rfl, ht⟩) (fun _ hq => by cases hq) d_R_parent_50
      · exact absurd (zi_n ck_21 hres) (by simp)
  · have hres := zi_p c_5 hres
    refine lv_iconst (v := (-1)) hx hb d_R_parent_8 (by decide) ?_
    refine lv_goto (tgt := 40) hx hb d_R_parent_9 (by decide) ?_
    refine lv_istore_n (lv' := [(3, .int (-1)), (0, .ref (q 0)), (1, .int a0), (2, .int a1)]) hx hb d_R_parent_40 rfl hl (by decide) rfl (fun ls hl => ?_)
    refine lv_iload_n hx hb d_R_parent_41 rfl (lv_at hl 0 rfl) ?_
    refine lv_if_ge (tgt := 49) hx hb d_R_parent_42 (by decide) (fun c => absurd c (by decide)) (fun _ => ?_)
    refine lv_iconst (v := (-1)) hx hb d_R_parent_45 (by decide) ?_
    refine lv_goto (tgt := 50) hx hb d_R_parent_46 (by decide) ?_
    obtain rfl := Option.some.inj hres
    exact W.iret (v := (-1)) hx hb hr (fun t ht hW => ⟨_, rfl, rfl, ht⟩) (fun _ hq => by cases hq) d_R_parent_50

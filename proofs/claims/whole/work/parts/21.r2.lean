def L_R_placeOf_2 (ρ : RSt) (a0 : Int32) (a1 : Int32) : Nat → Int32 → Option (Int32 ⊕ Int32)
  | 0, _ => none
  | n + 1, x2_3 =>
    if zin a0 67 then
      if (ρ.1.1.2.2 a0.toNatClampNeg) ≤ x2_3 then
        some (Sum.inr x2_3)
      else
        if zin ((8 * a0) + x2_3) 536 then
          if (ρ.1.2.1.1.1 ((8 * a0) + x2_3).toNatClampNeg) = a1 then
            some (Sum.inl x2_3)
          else
            L_R_placeOf_2 ρ a0 a1 n (x2_3 + 1)
        else
          none
    else
      none
def f_R_placeOf (ρ : RSt) (a0 : Int32) (a1 : Int32) : Option (Int32) :=
  Option.bind (L_R_placeOf_2 ρ a0 a1 zfuel 0) (fun w2 =>
    zs_m w2 (fun r => some r) (fun u2 =>
      some (-1)))
set_option maxHeartbeats 4000000 in
set_option maxRecDepth 100000 in
theorem c_R_placeOf (l : Launch) (D : va_G) (tys : List (ClassId × FieldType)) (q : Nat → Nat) (cR : Nat → ClassId) (ρ : RSt) (a0 : Int32) (a1 : Int32) (v : Int32) (hres : f_R_placeOf ρ a0 a1 = some v) : Met l y_R_placeOf w_R_placeOf ({ frames := 0, cells := 0, slots := 0, locals := 0 } : Room) (va_Pc ([.ref (q 0), .int a0, .int a1]) (zro D (zRt cR) (zR q cR ρ))) (vp_Si (fun r : Int32 => r = v)) 0 0 (fun _ => False) := by
  refine Met.ofW (cc := b_R_placeOf) (maxL := 4) (ret := (some .int)) (by decide) rfl ?_
  intro p e s m args below meth c s₁ B hml hv
  obtain ⟨rfl, hP, hK, hN⟩ := hv
  have hx := B.exec
  have hb := B.bytes
  have hr := B.returns
  have hts : ∀ w ∈ zt, w.before ([.ref (q 0), .int a0, .int a1].toArray) s = true := fun w h => atoms_spec (ws := w_R_placeOf) B.pre w (List.mem_cons_of_mem _ h)
  have hown : s.vm.findClass R_R = some m.cls := findClass_of_methodNamed B.named
  have hlocks := B.notSynchronized
  have hl := lv_entry ([.ref (q 0), .int a0, .int a1]) (n := 4) (Nat.le_of_ble_eq_true rfl)
  rw [lg_entry_eq]
  generalize (lg_sl ([.ref (q 0), .int a0, .int a1]) ++ List.replicate (4 - (lg_sl ([.ref (q 0), .int a0, .int a1])).length) Slot.unset).toArray = ls at hl ⊢
  have hl : lv_has ls 4 [(0, .ref (q 0)), (1, .int a0), (2, .int a1)] := hl
  unfold f_R_placeOf at hres
  refine lv_iconst (v := 0) hx hb d_R_placeOf_0 (by decide) ?_
  refine lv_istore_n (lv' := [(3, .int 0), (0, .ref (q 0)), (1, .int a0), (2, .int a1)]) hx hb d_R_placeOf_1 rfl hl (by decide) rfl (fun ls hl => ?_)
  obtain ⟨w2, hL2, hres⟩ := zo_b hres
  have hk2 : ∀ (u2 : Int32), w2 = Sum.inr u2 → ∀ (ls : Array Slot), lv_has ls 4 [(3, .int u2), (0, .ref (q 0)), (1, .int a0), (2, .int a1)] → W p l e (headSpec w_R_placeOf ({ frames := 0, cells := 0, slots := 0, locals := 0 } : Room)).room s m ([.ref (q 0), .int a0, .int a1].toArray) below meth c s.heap [] 0 0 (MQ below (vp_Si (fun r : Int32 => r = v)) ([.ref (q 0), .int a0, .int a1].toArray) s 0 0 (fun _ => False)) (F0 m 35 ls []) := by
    intro u2 hu2 ls hl
    subst hu2
    have hres := zs_r hres
    refine lv_iconst (v := (-1)) hx hb d_R_placeOf_35 (by decide) ?_
    obtain rfl := Option.some.inj hres
    exact W.iret (v := (-1)) hx hb hr (fun t ht hW => ⟨_, rfl, rfl, ht⟩) (fun _ hq => by cases hq) d_R_placeOf_36
  have hloop2 : ∀ (n : Nat) (x2_3 : Int32) (ls : Array Slot), lv_has ls 4 [(3, .int x2_3), (0, .ref (q 0)), (1, .int a0), (2, .int a1)] → L_R_placeOf_2 ρ a0 a1 n x2_3 = some w2 → W p l e (headSpec w_R_placeOf ({ frames := 0, cells := 0, slots := 0, locals := 0 } : Room)).room s m ([.ref (q 0), .int a0, .int a1].toArray) below meth c s.heap [] 0 0 (MQ below (vp_Si (fun r : Int32 => r = v)) ([.ref (q 0), .int a0, .int a1].toArray) s 0 0 (fun _ => False)) (F0 m 2 ls []) := by
    intro n
    induction n with
    | zero => intro x2_3 ls hl hL2; cases hL2
    | succ n ih =>
      intro x2_3 ls hl hL2
      rw [L_R_placeOf_2] at hL2
      refine lv_iload_n hx hb d_R_placeOf_2 rfl (lv_at hl 0 rfl) ?_
      refine lv_aload_n hx hb d_R_placeOf_3 rfl (lv_at hl 1 rfl) ?_
      refine va_get (D := D) (ci := 4) (v := .ref (q 6)) (C := R_R) (T := T_R) (N := 23) hx hb hts in_R hown hK hP (0) rfl rfl 5 (by decide) (hts _ k_433) (fun _ h9 => h9) rfl d_R_placeOf_4 ?_
      refine lv_iload_n hx hb d_R_placeOf_7 rfl (lv_at hl 2 rfl) ?_
      by_cases ck_8 : zin a0 67
      · have hL2 := zi_p ck_8 hL2
        refine va_iald hx hb hK hP 6 5 rfl rfl ck_8 d_R_placeOf_8 ?_
        refine lv_icmp_ge (tgt := 35) hx hb d_R_placeOf_9 (by decide) (fun c_9 => ?_) (fun c_9 => ?_)
        · have hL2 := zi_p c_9 hL2
          obtain rfl := Option.some.inj hL2
          exact hk2 _ rfl ls (lv_sub hl [0, 1, 2, 3] rfl)
        · have hL2 := zi_n c_9 hL2
          refine lv_aload_n hx hb d_R_placeOf_12 rfl (lv_at hl 1 rfl) ?_
          refine va_get (D := D) (ci := 4) (v := .ref (q 7)) (C := R_R) (T := T_R) (N := 23) hx hb hts in_R hown hK hP (0) rfl rfl 6 (by decide) (hts _ k_434) (fun _ h9 => h9) rfl d_R_placeOf_13 ?_
          refine lv_bipush (v := 8) hx hb d_R_placeOf_16 (by decide) ?_
          refine lv_iload_n hx hb d_R_placeOf_18 rfl (lv_at hl 2 rfl) ?_
          refine lv_imul hx hb d_R_placeOf_19 ?_
          refine lv_iload_n hx hb d_R_placeOf_20 rfl (lv_at hl 0 rfl) ?_
          refine lv_iadd hx hb d_R_placeOf_21 ?_
          by_cases ck_22 : zin ((8 * a0) + x2_3) 536
          · have hL2 := zi_p ck_22 hL2
            refine va_iald hx hb hK hP 7 6 rfl rfl ck_22 d_R_placeOf_22 ?_
            refine lv_iload_n hx hb d_R_placeOf_23 rfl (lv_at hl 3 rfl) ?_
            refine lv_icmp_ne (tgt := 29) hx hb d_R_placeOf_24 (by decide) (fun c_24 => ?_) (fun c_24 => ?_)
            · have hL2 := zi_n c_24 hL2
              refine lv_iinc (v := (x2_3 + 1)) (lv' := [(3, .int (x2_3 + 1)), (0, .ref (q 0)), (1, .int a0), (2, .int a1)]) hx hb d_R_placeOf_29 hl (k := 0) rfl rfl (by decide) rfl (fun ls hl => ?_)
              refine lv_goto (tgt := 2) hx hb d_R_placeOf_32 (by decide) ?_
              exact ih (x2_3 + 1) ls (lv_sub hl [0, 1, 2, 3] rfl) hL2
            · have hL2 := zi_p c_24 hL2
              refine lv_iload_n hx hb d_R_placeOf_27 rfl (lv_at hl 0 rfl) ?_
              obtain rfl := Option.some.inj hL2
              obtain rfl := Option.some.inj hres
              exact W.iret (v := x2_3) hx hb hr (fun t ht hW => ⟨_, rfl, rfl, ht⟩) (fun _ hq => by cases hq) d_R_placeOf_28
          · exact absurd (zi_n ck_22 hL2) (by simp)
      · exact absurd (zi_n ck_8 hL2) (by simp)
  exact hloop2 zfuel 0 ls (lv_sub hl [0, 1, 2, 3] rfl) hL2
def f_R_queued (ρ : RSt) (a0 : Int32) (a1 : Int32) : Option (Int32) :=
  Option.bind (f_R_isCommit ρ a0) (fun v2 =>
    if v2 = 0 then
      some (-1)
    else
      if a1 < 0 then
        some (-1)
      else
        if zin a0 67 then
          if (ρ.1.1.2.2 a0.toNatClampNeg) ≤ a1 then
            some (-1)
          else
            if zin ((8 * a0) + a1) 536 then
              some (ρ.1.2.1.1.1 ((8 * a0) + a1).toNatClampNeg)
            else
              none
        else
          none)
set_option maxHeartbeats 4000000 in
set_option maxRecDepth 100000 in
theorem c_R_queued (l : Launch) (D : va_G) (tys : List (ClassId × FieldType)) (q : Nat → Nat) (cR : Nat → ClassId) (ρ : RSt) (a0 : Int32) (a1 : Int32) (v : Int32) (hres : f_R_queued ρ a0 a1 = some v) : Met l y_R_queued w_R_queued ({ frames := 1, cells := 0, slots := 0, locals := 21 } : Room) (va_Pc ([.ref (q 0), .int a0, .int a1]) (zro D (zRt cR) (zR q cR ρ))) (vp_Si (fun r : Int32 => r = v)) 0 0 (fun _ => False) := by
  refine Met.ofW (cc := b_R_queued) (maxL := 3) (ret := (some .int)) (by decide) rfl ?_
  intro p e s m args below meth c s₁ B hml hv
  obtain ⟨rfl, hP, hK, hN⟩ := hv
  have hx := B.exec
  have hb := B.bytes
  have hr := B.returns
  have hts : ∀ w ∈ zt, w.before ([.ref (q 0), .int a0, .int a1].toArray) s = true := fun w h => atoms_spec (ws := w_R_queued) B.pre w (List.mem_cons_of_mem _ h)
  have hown : s.vm.findClass R_R = some m.cls := findClass_of_methodNamed B.named
  have hlocks := B.notSynchronized
  have hl := lv_entry ([.ref (q 0), .int a0, .int a1]) (n := 3) (Nat.le_of_ble_eq_true rfl)
  rw [lg_entry_eq]
  generalize (lg_sl ([.ref (q 0), .int a0, .int a1]) ++ List.replicate (3 - (lg_sl ([.ref (q 0), .int a0, .int a1])).length) Slot.unset).toArray = ls at hl ⊢
  have hl : lv_has ls 3 [(0, .ref (q 0)), (1, .int a0), (2, .int a1)] := hl
  unfold f_R_queued at hres
  refine lv_aload_n hx hb d_R_queued_0 rfl (lv_at hl 0 rfl) ?_
  refine lv_iload_n hx hb d_R_queued_1 rfl (lv_at hl 1 rfl) ?_
  obtain ⟨v2, hc2, hres⟩ := zo_b hres
  refine vp_callSi (va_Run.run (va_runV (As := [.int a0]) (rest := []) ⟨hx, hb, hml, hown, hts⟩ (c_R_isCommit l D (zRt cR) q cR ρ a0 v2 hc2) (cwV 1 hts (zg_V k_551 k_553 k_16 k_32 g_R_isCommit) rfl rfl rfl ⟨rfl, hd_R_isCommit⟩ ⟨Nat.le_of_ble_eq_true rfl, Nat.le_of_ble_eq_true rfl⟩) ⟨zro_b _, va_recv hK hP (q0 := 0) rfl rfl, zro_p hP hK hN _⟩ rfl rfl hl.1 rfl (lv_room (Nat.le_of_ble_eq_true rfl)) d_R_queued_2 ⟨Nat.zero_le _, Nat.zero_le _⟩)) (fun r_2 er_2 => ?_)
  have er_2 := er_2.symm
  subst er_2
  refine lv_if_eq (tgt := 36) hx hb d_R_queued_5 (by decide) (fun c_5 => ?_) (fun c_5 => ?_)
  · have hres := zi_p c_5 hres
    refine lv_iconst (v := (-1)) hx hb d_R_queued_36 (by decide) ?_
    obtain rfl := Option.some.inj hres
    exact W.iret (v := (-1)) hx hb hr (fun t ht hW => ⟨_, rfl, rfl, ht⟩) (fun _ hq => by cases hq) d_R_queued_37
  · have hres := zi_n c_5 hres
    refine lv_iload_n hx hb d_R_queued_8 rfl (lv_at hl 2 rfl) ?_
    refine lv_if_lt (tgt := 36) hx hb d_R_queued_9 (by decide) (fun c_9 => ?_) (fun c_9 => ?_)
    · have hres := zi_p c_9 hres
      refine lv_iconst (v := (-1)) hx hb d_R_queued_36 (by decide) ?_
      obtain rfl := Option.some.inj hres
      exact W.iret (v := (-1)) hx hb hr (fun t ht hW => ⟨_, rfl, rfl, ht⟩) (fun _ hq => by cases hq) d_R_queued_37
    · have hres := zi_n c_9 hres
      refine lv_iload_n hx hb d_R_queued_12 rfl (lv_at hl 2 rfl) ?_
      refine lv_aload_n hx hb d_R_queued_13 rfl (lv_at hl 0 rfl) ?_
      refine va_get (D := D) (ci := 4) (v := .ref (q 6)) (C := R_R) (T := T_R) (N := 23) hx hb hts in_R hown hK hP (0) rfl rfl 5 (by decide) (hts _ k_433) (fun _ h9 => h9) rfl d_R_queued_14 ?_
      refine lv_iload_n hx hb d_R_queued_17 rfl (lv_at hl 1 rfl) ?_
      by_cases ck_18 : zin a0 67
      · have hres := zi_p ck_18 hres
        refine va_iald hx hb hK hP 6 5 rfl rfl ck_18 d_R_queued_18 ?_
        refine lv_icmp_ge (tgt := 36) hx hb d_R_queued_19 (by decide) (fun c_19 => ?_) (fun c_19 => ?_)
        · have hres := zi_p c_19 hres
          refine lv_iconst (v := (-1)) hx hb d_R_queued_36 (by decide) ?_
          obtain rfl := Option.some.inj hres
          exact W.iret (v := (-1)) hx hb hr (fun t ht hW => ⟨_, rfl, rfl, ht⟩) (fun _ hq => by cases hq) d_R_queued_37
        · have hres := zi_n c_19 hres
          refine lv_aload_n hx hb d_R_queued_22 rfl (lv_at hl 0 rfl) ?_
          refine va_get (D := D) (ci := 4) (v := .ref (q 7)) (C := R_R) (T := T_R) (N := 23) hx hb hts in_R hown hK hP (0) rfl rfl 6 (by decide) (hts _ k_434) (fun _ h9 => h9) rfl d_R_queued_23 ?_
          refine lv_bipush (v := 8) hx hb d_R_queued_26 (by decide) ?_
          refine lv_iload_n hx hb d_R_queued_28 rfl (lv_at hl 1 rfl) ?_
          refine lv_imul hx hb d_R_queued_29 ?_
          refine lv_iload_n hx hb d_R_queued_30 rfl (lv_at hl 2 rfl) ?_
          refine lv_iadd hx hb d_R_queued_31 ?_
          by_cases ck_32 : zin ((8 * a0) + a1) 536
          · have hres := zi_p ck_32 hres
            refine va_iald hx hb hK hP 7 6 rfl rfl ck_32 d_R_queued_32 ?_
            refine lv_goto (tgt := 37) hx hb d_R_queued_33 (by decide) ?_
            obtain rfl := Option.some.inj hres
            exact W.iret (v := (ρ.1.2.1.1.1 ((8 * a0) + a1).toNatClampNeg)) hx hb hr (fun t ht hW => ⟨_, rfl, rfl, ht⟩) (fun _ hq => by cases hq) d_R_queued_37
          · exact absurd (zi_n ck_32 hres) (by simp)
      · exact absurd (zi_n ck_18 hres) (by simp)
abbrev qd_R_swap (D : va_G) (tys : List (ClassId × FieldType)) (q : Nat → Nat) (cR : Nat → ClassId) (ρ : RSt) (a0 : Int32) (a1 : Int32) (a2 : Int32) (v : Int32 × RSt) (A : Nat → Prop) : Array Value → State → Outcome → State → Prop := va_Qi (fun (r : Int32) (_ : Unit) => r = v.1) (fun _ t => zwd D (zRt cR) (A) (zR q cR v.2) t) (A)

def f_R_swap (ρ : RSt) (a0 : Int32) (a1 : Int32) (a2 : Int32) : Option (Int32 × RSt) :=
  Option.bind (f_R_isBranch a0) (fun v1 =>
    if v1 = 0 then
      some (0, ρ)
    else
      if a2 = (-1) then
        if zin a0 4 then
          if (ρ.2.1.2.1.2 a0.toNatClampNeg) = a1 then
            Option.bind (f_R_move ρ a0 a2) (fun v35 =>
              some (1, v35))
          else
            some (0, ρ)
        else
          none
      else
        Option.bind (f_R_isCommit ρ a2) (fun v14 =>
          if v14 = 0 then
            some (0, ρ)
          else
            if zin a0 4 then
              if (ρ.2.1.2.1.2 a0.toNatClampNeg) = a1 then
                Option.bind (f_R_move ρ a0 a2) (fun v35 =>
                  some (1, v35))
              else
                some (0, ρ)
            else
              none))
set_option maxHeartbeats 4000000 in
set_option maxRecDepth 100000 in
theorem c_R_swap (l : Launch) (D : va_G) (tys : List (ClassId × FieldType)) (sz : Nat) (q : Nat → Nat) (cR : Nat → ClassId) (ρ : RSt) (a0 : Int32) (a1 : Int32) (a2 : Int32) (v : Int32 × RSt) (hres : f_R_swap ρ a0 a1 a2 = some v) : Met l y_R_swap w_R_swap ({ frames := 1, cells := 0, slots := 0, locals := 22 } : Room) (va_Pc ([.ref (q 0), .int a0, .int a1, .int a2]) (zrw D (zRt cR) sz (zR q cR ρ))) (qd_R_swap D tys q cR ρ a0 a1 a2 v (va_A (zR q cR ρ) sz)) 0 0 (va_A (zR q cR ρ) sz) := by
  refine Met.ofW (cc := b_R_swap) (maxL := 4) (ret := (some .boolean)) (by decide) rfl ?_
  intro p e s m args below meth c s₁ B hml hv
  obtain ⟨rfl, hsz, hP, hK, hD0, hN⟩ := hv
  have hx := B.exec
  have hb := B.bytes
  have hr := B.returns
  have hts : ∀ w ∈ zt, w.before ([.ref (q 0), .int a0, .int a1, .int a2].toArray) s = true := fun w h => atoms_spec (ws := w_R_swap) B.pre w (List.mem_cons_of_mem _ h)
  have hown : s.vm.findClass R_R = some m.cls := findClass_of_methodNamed B.named
  have hlocks := B.notSynchronized
  subst hsz
  have hD := hD0.self (sz := s.heap.size)
  generalize hAe : va_A (zR q cR ρ) s.heap.size = A at hD ⊢
  have hA : ∀ q : Nat, s.heap.size ≤ q → A q := fun q h => by rw [← hAe]; exact Or.inr h
  have hS : va_S A s.heap s.heap [] := va_S.rf
  have hP : va_P D vwCl (zR q cR ρ) s.heap := hP
  have hD : va_D A (zR q cR ρ) := hD
  have hl := lv_entry ([.ref (q 0), .int a0, .int a1, .int a2]) (n := 4) (Nat.le_of_ble_eq_true rfl)
  rw [lg_entry_eq]
  generalize (lg_sl ([.ref (q 0), .int a0, .int a1, .int a2]) ++ List.replicate (4 - (lg_sl ([.ref (q 0), .int a0, .int a1, .int a2])).length) Slot.unset).toArray = ls at hl ⊢
  have hl : lv_has ls 4 [(0, .ref (q 0)), (1, .int a0), (2, .int a1), (3, .int a2)] := hl
  unfold f_R_swap at hres
  refine lv_iload_n hx hb d_R_swap_0 rfl (lv_at hl 1 rfl) ?_
  obtain ⟨v1, hc1, hres⟩ := zo_b hres
  refine vp_callSi (va_Run.run (va_runS (As := [.int a0]) (rest := []) ⟨hx, hb, hml, hown, hts⟩ (c_R_isBranch l D (zRt cR) a0 v1 hc1) (va_cwS 1 hts (zg_S k_505 k_506 k_32 g_R_isBranch) rfl rfl rfl hd_R_isBranch ⟨Nat.le_of_ble_eq_true rfl, Nat.le_of_ble_eq_true rfl⟩) ⟨zro_b _, zro_p va_Pnil hK hN _⟩ rfl rfl hl.1 rfl (lv_room (Nat.le_of_ble_eq_true rfl)) d_R_swap_1 ⟨Nat.zero_le _, Nat.zero_le _⟩)) (fun r_1 er_1 => ?_)
  have er_1 := er_1.symm
  subst er_1
  refine lv_if_eq (tgt := 30) hx hb d_R_swap_4 (by decide) (fun c_4 => ?_) (fun c_4 => ?_)
  · have hres := zi_p c_4 hres
    refine lv_iconst (v := 0) hx hb d_R_swap_30 (by decide) ?_
    obtain rfl := Option.some.inj hres
    exact W.zret (v := 0) (ty := .boolean) hx hb hr rfl (fun t ht hW => ⟨⟨_, (), rfl, rfl, by rw [ht]; exact hP, va_K.moved hW.alike hK, hD⟩, hS.F ht⟩) hS.2.2 d_R_swap_31
  · have hres := zi_n c_4 hres
    refine lv_iload_n hx hb d_R_swap_7 rfl (lv_at hl 3 rfl) ?_
    refine lv_iconst (v := (-1)) hx hb d_R_swap_8 (by decide) ?_
    refine lv_icmp_eq (tgt := 20) hx hb d_R_swap_9 (by decide) (fun c_9 => ?_) (fun c_9 => ?_)
    · have hres := zi_p c_9 hres
      refine lv_aload_n hx hb d_R_swap_20 rfl (lv_at hl 0 rfl) ?_
      refine va_get (D := D) (ci := 4) (v := .ref (q 16)) (C := R_R) (T := T_R) (N := 23) hx hb hts in_R hown hK hP (0) rfl rfl 16 (by decide) (hts _ k_444) (fun _ h9 => h9) rfl d_R_swap_21 ?_
      refine lv_iload_n hx hb d_R_swap_24 rfl (lv_at hl 1 rfl) ?_
      by_cases ck_25 : zin a0 4
      · have hres := zi_p ck_25 hres
        refine va_iald hx hb hK hP 16 15 rfl rfl ck_25 d_R_swap_25 ?_
        refine lv_iload_n hx hb d_R_swap_26 rfl (lv_at hl 2 rfl) ?_
        refine lv_icmp_eq (tgt := 32) hx hb d_R_swap_27 (by decide) (fun c_27 => ?_) (fun c_27 => ?_)
        · have hres := zi_p c_27 hres
          refine lv_aload_n hx hb d_R_swap_32 rfl (lv_at hl 0 rfl) ?_
          refine lv_iload_n hx hb d_R_swap_33 rfl (lv_at hl 1 rfl) ?_
          refine lv_iload_n hx hb d_R_swap_34 rfl (lv_at hl 3 rfl) ?_
          obtain ⟨v35, hc35, hres⟩ := zo_b hres
          refine zw_v (ws' := zR q cR v35) (va_runV (As := [.int a0, .int a2]) (rest := []) ⟨hx, hb, hml, hown, hts⟩ (c_R_move l D (zRt cR) _ q cR ρ a0 a2 v35 hc35) (cwV 2 hts (zg_V k_539 k_541 k_15 k_32 g_R_move) rfl rfl rfl ⟨rfl, hd_R_move⟩ ⟨Nat.le_of_ble_eq_true rfl, Nat.le_of_ble_eq_true rfl⟩) ⟨zrw_b _, va_recv hK hP (q0 := 0) rfl rfl, zrw_w hP hD hK hN _⟩ rfl rfl hl.1 rfl (lv_room (Nat.le_of_ble_eq_true rfl)) d_R_swap_35 ⟨Nat.le_of_ble_eq_true rfl, Nat.le_of_ble_eq_true rfl⟩) hD hS hA (fun H locs hP hD hS => ?_)
          have hP : va_P D vwCl (zR q cR v35) H := hP
          have hD : va_D A (zR q cR v35) := hD
          refine lv_iconst (v := 1) hx hb d_R_swap_38 (by decide) ?_
          obtain rfl := Option.some.inj hres
          exact W.zret (v := 1) (ty := .boolean) hx hb hr rfl (fun t ht hW => ⟨⟨_, (), rfl, rfl, by rw [ht]; exact hP, va_K.moved hW.alike hK, hD⟩, hS.F ht⟩) hS.2.2 d_R_swap_39
        · have hres := zi_n c_27 hres
          refine lv_iconst (v := 0) hx hb d_R_swap_30 (by decide) ?_
          obtain rfl := Option.some.inj hres
          exact W.zret (v := 0) (ty := .boolean) hx hb hr rfl (fun t ht hW => ⟨⟨_, (), rfl, rfl, by rw [ht]; exact hP, va_K.moved hW.alike hK, hD⟩, hS.F ht⟩) hS.2.2 d_R_swap_31
      · exact absurd (zi_n ck_25 hres) (by simp)
    · have hres := zi_n c_9 hres
      refine lv_aload_n hx hb d_R_swap_12 rfl (lv_at hl 0 rfl) ?_
      refine lv_iload_n hx hb d_R_swap_13 rfl (lv_at hl 3 rfl) ?_
      obtain ⟨v14, hc14, hres⟩ := zo_b hres
      refine vp_callSi (va_Run.run (va_runV (As := [.int a2]) (rest := []) ⟨hx, hb, hml, hown, hts⟩ (c_R_isCommit l D (zRt cR) q cR ρ a2 v14 hc14) (cwV 1 hts (zg_V k_551 k_553 k_16 k_32 g_R_isCommit) rfl rfl rfl ⟨rfl, hd_R_isCommit⟩ ⟨Nat.le_of_ble_eq_true rfl, Nat.le_of_ble_eq_true rfl⟩) ⟨zro_b _, va_recv hK hP (q0 := 0) rfl rfl, zro_p hP hK hN _⟩ rfl rfl hl.1 rfl (lv_room (Nat.le_of_ble_eq_true rfl)) d_R_swap_14 ⟨Nat.zero_le _, Nat.zero_le _⟩)) (fun r_14 er_14 => ?_)
      have er_14 := er_14.symm
      subst er_14
      refine lv_if_eq (tgt := 30) hx hb d_R_swap_17 (by decide) (fun c_17 => ?_) (fun c_17 => ?_)
      · have hres := zi_p c_17 hres
        refine lv_iconst (v := 0) hx hb d_R_swap_30 (by decide) ?_
        obtain rfl := Option.some.inj hres
        exact W.zret (v := 0) (ty := .boolean) hx hb hr rfl (fun t ht hW => ⟨⟨_, (), rfl, rfl, by rw [ht]; exact hP, va_K.moved hW.alike hK, hD⟩, hS.F ht⟩) hS.2.2 d_R_swap_31
      · have hres := zi_n c_17 hres
        refine lv_aload_n hx hb d_R_swap_20 rfl (lv_at hl 0 rfl) ?_
        refine va_get (D := D) (ci := 4) (v := .ref (q 16)) (C := R_R) (T := T_R) (N := 23) hx hb hts in_R hown hK hP (0) rfl rfl 16 (by decide) (hts _ k_444) (fun _ h9 => h9) rfl d_R_swap_21 ?_
        refine lv_iload_n hx hb d_R_swap_24 rfl (lv_at hl 1 rfl) ?_
        by_cases ck_25 : zin a0 4
        · have hres := zi_p ck_25 hres
          refine va_iald hx hb hK hP 16 15 rfl rfl ck_25 d_R_swap_25 ?_
          refine lv_iload_n hx hb d_R_swap_26 rfl (lv_at hl 2 rfl) ?_
          refine lv_icmp_eq (tgt := 32) hx hb d_R_swap_27 (by decide) (fun c_27 => ?_) (fun c_27 => ?_)
          · have hres := zi_p c_27 hres
            refine lv_aload_n hx hb d_R_swap_32 rfl (lv_at hl 0 rfl) ?_
            refine lv_iload_n hx hb d_R_swap_33 rfl (lv_at hl 1 rfl) ?_
            refine lv_iload_n hx hb d_R_swap_34 rfl (lv_at hl 3 rfl) ?_
            obtain ⟨v35, hc35, hres⟩ := zo_b hres
            refine zw_v (ws' := zR q cR v35) (va_runV (As := [.int a0, .int a2]) (rest := []) ⟨hx, hb, hml, hown, hts⟩ (c_R_move l D (zRt cR) _ q cR ρ a0 a2 v35 hc35) (cwV 2 hts (zg_V k_539 k_541 k_15 k_32 g_R_move) rfl rfl rfl ⟨rfl, hd_R_move⟩ ⟨Nat.le_of_ble_eq_true rfl, Nat.le_of_ble_eq_true rfl⟩) ⟨zrw_b _, va_recv hK hP (q0 := 0) rfl rfl, zrw_w hP hD hK hN _⟩ rfl rfl hl.1 rfl (lv_room (Nat.le_of_ble_eq_true rfl)) d_R_swap_35 ⟨Nat.le_of_ble_eq_true rfl, Nat.le_of_ble_eq_true rfl⟩) hD hS hA (fun H locs hP hD hS => ?_)
            have hP : va_P D vwCl (zR q cR v35) H := hP
            have hD : va_D A (zR q cR v35) := hD
            refine lv_iconst (v := 1) hx hb d_R_swap_38 (by decide) ?_
            obtain rfl := Option.some.inj hres
            exact W.zret (v := 1) (ty := .boolean) hx hb hr rfl (fun t ht hW => ⟨⟨_, (), rfl, rfl, by rw [ht]; exact hP, va_K.moved hW.alike hK, hD⟩, hS.F ht⟩) hS.2.2 d_R_swap_39
          · have hres := zi_n c_27 hres
            refine lv_iconst (v := 0) hx hb d_R_swap_30 (by decide) ?_
            obtain rfl := Option.some.inj hres
            exact W.zret (v := 0) (ty := .boolean) hx hb hr rfl (fun t ht hW => ⟨⟨_, (), rfl, rfl, by rw [ht]; exact hP, va_K.moved hW.alike hK, hD⟩, hS.F ht⟩) hS.2.2 d_R_swap_31
        · exact absurd (zi_n ck_25 hres) (by simp)
def f_R_time (ρ : RSt) (a0 : Int32) : Option (Int32) :=
  Option.bind (f_R_isCommit ρ a0) (fun v2 =>
    if v2 = 0 then
      some (-1)
    else
      some (a0 + 1))
set_option maxHeartbeats 4000000 in
set_option maxRecDepth 100000 in
theorem c_R_time (l : Launch) (D : va_G) (tys : List (ClassId × FieldType)) (q : Nat → Nat) (cR : Nat → ClassId) (ρ : RSt) (a0 : Int32) (v : Int32) (hres : f_R_time ρ a0 = some v) : Met l y_R_time w_R_time ({ frames := 1, cells := 0, slots := 0, locals := 21 } : Room) (va_Pc ([.ref (q 0), .int a0]) (zro D (zRt cR) (zR q cR ρ))) (vp_Si (fun r : Int32 => r = v)) 0 0 (fun _ => False) := by
  refine Met.ofW (cc := b_R_time) (maxL := 2) (ret := (some .int)) (by decide) rfl ?_
  intro p e s m args below meth c s₁ B hml hv
  obtain ⟨rfl, hP, hK, hN⟩ := hv
  have hx := B.exec
  have hb := B.bytes
  have hr := B.returns
  have hts : ∀ w ∈ zt, w.before ([.ref (q 0), .int a0].toArray) s = true := fun w h => atoms_spec (ws := w_R_time) B.pre w (List.mem_cons_of_mem _ h)
  have hown : s.vm.findClass R_R = some m.cls := findClass_of_methodNamed B.named
  have hlocks := B.notSynchronized
  have hl := lv_entry ([.ref (q 0), .int a0]) (n := 2) (Nat.le_of_ble_eq_true rfl)
  rw [lg_entry_eq]
  generalize (lg_sl ([.ref (q 0), .int a0]) ++ List.replicate (2 - (lg_sl ([.ref (q 0), .int a0])).length) Slot.unset).toArray = ls at hl ⊢
  have hl : lv_has ls 2 [(0, .ref (q 0)), (1, .int a0)] := hl
  unfold f_R_time at hres
  refine lv_aload_n hx hb d_R_time_0 rfl (lv_at hl 0 rfl) ?_
  refine lv_iload_n hx hb d_R_time_1 rfl (lv_at hl 1 rfl) ?_
  obtain ⟨v2, hc2, hres⟩ := zo_b hres
  refine vp_callSi (va_Run.run (va_runV (As := [.int a0]) (rest := []) ⟨hx, hb, hml, hown, hts⟩ (c_R_isCommit l D (zRt cR) q cR ρ a0 v2 hc2) (cwV 1 hts (zg_V k_551 k_553 k_16 k_32 g_R_isCommit) rfl rfl rfl ⟨rfl, hd_R_isCommit⟩ ⟨Nat.le_of_ble_eq_true rfl, Nat.le_of_ble_eq_true rfl⟩) ⟨zro_b _, va_recv hK hP (q0 := 0) rfl rfl, zro_p hP hK hN _⟩ rfl rfl hl.1 rfl (lv_room (Nat.le_of_ble_eq_true rfl)) d_R_time_2 ⟨Nat.zero_le _, Nat.zero_le _⟩)) (fun r_2 er_2 => ?_)
  have er_2 := er_2.symm
  subst er_2
  refine lv_if_eq (tgt := 14) hx hb d_R_time_5 (by decide) (fun c_5 => ?_) (fun c_5 => ?_)
  · have hres := zi_p c_5 hres
    refine lv_iconst (v := (-1)) hx hb d_R_time_14 (by decide) ?_
    obtain rfl := Option.some.inj hres
    exact W.iret (v := (-1)) hx hb hr (fun t ht hW => ⟨_, rfl, rfl, ht⟩) (fun _ hq => by cases hq) d_R_time_15
  · have hres := zi_n c_5 hres
    refine lv_iload_n hx hb d_R_time_8 rfl (lv_at hl 1 rfl) ?_
    refine lv_iconst (v := 1) hx hb d_R_time_9 (by decide) ?_
    refine lv_iadd hx hb d_R_time_10 ?_
    refine lv_goto (tgt := 15) hx hb d_R_time_11 (by decide) ?_
    obtain rfl := Option.some.inj hres
    exact W.iret (v := (a0 + 1)) hx hb hr (fun t ht hW => ⟨_, rfl, rfl, ht⟩) (fun _ hq => by cases hq) d_R_time_15
def f_R_torn (a0 : Int32) (a1 : Int32) (a2 : Int32) : Option (Int32) :=
  if a1 = a0 then
    some 0
  else
    if a2 = a0 then
      some 0
    else
      if a1 = a2 then
        some 0
      else
        some 1
set_option maxHeartbeats 4000000 in
set_option maxRecDepth 100000 in
theorem c_R_torn (l : Launch) (D : va_G) (tys : List (ClassId × FieldType)) (a0 : Int32) (a1 : Int32) (a2 : Int32) (v : Int32) (hres : f_R_torn a0 a1 a2 = some v) : Met l y_R_torn w_R_torn ({ frames := 0, cells := 0, slots := 0, locals := 0 } : Room) (va_Pc ([.int a0, .int a1, .int a2]) (zro D tys ([]))) (vp_Si (fun r : Int32 => r = v)) 0 0 (fun _ => False) := by
  refine Met.ofW (cc := b_R_torn) (maxL := 3) (ret := (some .boolean)) (by decide) rfl ?_
  intro p e s m args below meth c s₁ B hml hv
  obtain ⟨rfl, hP, hK, hN⟩ := hv
  have hx := B.exec
  have hb := B.bytes
  have hr := B.returns
  have hts : ∀ w ∈ zt, w.before ([.int a0, .int a1, .int a2].toArray) s = true := fun w h => atoms_spec (ws := w_R_torn) B.pre w (List.mem_cons_of_mem _ h)
  have hown : s.vm.findClass R_R = some m.cls := findClass_of_methodNamed B.named
  have hlocks := B.notSynchronized
  have hl := lv_entry ([.int a0, .int a1, .int a2]) (n := 3) (Nat.le_of_ble_eq_true rfl)
  rw [lg_entry_eq]
  generalize (lg_sl ([.int a0, .int a1, .int a2]) ++ List.replicate (3 - (lg_sl ([.int a0, .int a1, .int a2])).length) Slot.unset).toArray = ls at hl ⊢
  have hl : lv_has ls 3 [(0, .int a0), (1, .int a1), (2, .int a2)] := hl
  unfold f_R_torn at hres
  refine lv_iload_n hx hb d_R_torn_0 rfl (lv_at hl 1 rfl) ?_
  refine lv_iload_n hx hb d_R_torn_1 rfl (lv_at hl 0 rfl) ?_
  refine lv_icmp_eq (tgt := 19) hx hb d_R_torn_2 (by decide) (fun c_2 => ?_) (fun c_2 => ?_)
  · have hres := zi_p c_2 hres
    refine lv_iconst (v := 0) hx hb d_R_torn_19 (by decide) ?_
    obtain rfl := Option.some.inj hres
    exact W.zret (v := 0) (ty := .boolean) hx hb hr rfl (fun t ht hW => ⟨_, rfl, rfl, ht⟩) (fun _ hq => by cases hq) d_R_torn_20
  · have hres := zi_n c_2 hres
    refine lv_iload_n hx hb d_R_torn_5 rfl (lv_at hl 2 rfl) ?_
    refine lv_iload_n hx hb d_R_torn_6 rfl (lv_at hl 0 rfl) ?_
    refine lv_icmp_eq (tgt := 19) hx hb d_R_torn_7 (by decide) (fun c_7 => ?_) (fun c_7 => ?_)
    · have hres := zi_p c_7 hres
      refine lv_iconst (v := 0) hx hb d_R_torn_19 (by decide) ?_
      obtain rfl := Option.some.inj hres
      exact W.zret (v := 0) (ty := .boolean) hx hb hr rfl (fun t ht hW => ⟨_, rfl, rfl, ht⟩) (fun _ hq => by cases hq) d_R_torn_20
    · have hres := zi_n c_7 hres
      refine lv_iload_n hx hb d_R_torn_10 rfl (lv_at hl 1 rfl) ?_
      refine lv_iload_n hx hb d_R_torn_11 rfl (lv_at hl 2 rfl) ?_
      refine lv_icmp_eq (tgt := 19) hx hb d_R_torn_12 (by decide) (fun c_12 => ?_) (fun c_12 => ?_)
      · have hres := zi_p c_12 hres
        refine lv_iconst (v := 0) hx hb d_R_torn_19 (by decide) ?_
        obtain rfl := Option.some.inj hres
        exact W.zret (v := 0) (ty := .boolean) hx hb hr rfl (fun t ht hW => ⟨_, rfl, rfl, ht⟩) (fun _ hq => by cases hq) d_R_torn_20
      · have hres := zi_n c_12 hres
        refine lv_iconst (v := 1) hx hb d_R_torn_15 (by decide) ?_
        refine lv_goto (tgt := 20) hx hb d_R_torn_16 (by decide) ?_
        obtain rfl := Option.some.inj hres
        exact W.zret (v := 1) (ty := .boolean) hx hb hr rfl (fun t ht hW => ⟨_, rfl, rfl, ht⟩) (fun _ hq => by cases hq) d_R_torn_20
def J_R_unfit_49_4 (ρ : RSt) (a0 : Int32) (a1 : Int32) (j49_s0 : Int32) : Option (Int32) :=
  if a1 = 3 then
    if j49_s0 = 0 then
      if a1 = 4 then
        if j49_s0 = 0 then
          some 1
        else
          if a1 = 5 then
            if j49_s0 = 0 then
              if zin a0 67 then
                if (ρ.1.1.2.2 a0.toNatClampNeg) = 8 then
                  some 1
                else
                  if a1 = 6 then
                    if zin a0 67 then
                      if (ρ.1.1.2.2 a0.toNatClampNeg) = 0 then
                        some 1
                      else
                        if a1 = 8 then
                          if zin a0 67 then
                            if (ρ.1.2.1.1.2 a0.toNatClampNeg) = 0 then
                              some 1
                            else
                              some 0
                          else
                            none
                        else
                          some 0
                    else
                      none
                  else
                    if a1 = 8 then
                      if zin a0 67 then
                        if (ρ.1.2.1.1.2 a0.toNatClampNeg) = 0 then
                          some 1
                        else
                          some 0
                      else
                        none
                    else
                      some 0
              else
                none
            else
              some 1
          else
            if a1 = 6 then
              if zin a0 67 then
                if (ρ.1.1.2.2 a0.toNatClampNeg) = 0 then
                  some 1
                else
                  if a1 = 8 then
                    if zin a0 67 then
                      if (ρ.1.2.1.1.2 a0.toNatClampNeg) = 0 then
                        some 1
                      else
                        some 0
                    else
                      none
                  else
                    some 0
              else
                none
            else
              if a1 = 8 then
                if zin a0 67 then
                  if (ρ.1.2.1.1.2 a0.toNatClampNeg) = 0 then
                    some 1
                  else
                    some 0
                else
                  none
              else
                some 0
      else
        if a1 = 5 then
          if j49_s0 = 0 then
            if zin a0 67 then
              if (ρ.1.1.2.2 a0.toNatClampNeg) = 8 then
                some 1
              else
                if a1 = 6 then
                  if zin a0 67 then
                    if (ρ.1.1.2.2 a0.toNatClampNeg) = 0 then
                      some 1
                    else
                      if a1 = 8 then
                        if zin a0 67 then
                          if (ρ.1.2.1.1.2 a0.toNatClampNeg) = 0 then
                            some 1
                          else
                            some 0
                        else
                          none
                      else
                        some 0
                  else
                    none
                else
                  if a1 = 8 then
                    if zin a0 67 then
                      if (ρ.1.2.1.1.2 a0.toNatClampNeg) = 0 then
                        some 1
                      else
                        some 0
                    else
                      none
                  else
                    some 0
            else
              none
          else
            some 1
        else
          if a1 = 6 then
            if zin a0 67 then
              if (ρ.1.1.2.2 a0.toNatClampNeg) = 0 then
                some 1
              else
                if a1 = 8 then
                  if zin a0 67 then
                    if (ρ.1.2.1.1.2 a0.toNatClampNeg) = 0 then
                      some 1
                    else
                      some 0
                  else
                    none
                else
                  some 0
            else
              none
          else
            if a1 = 8 then
              if zin a0 67 then
                if (ρ.1.2.1.1.2 a0.toNatClampNeg) = 0 then
                  some 1
                else
                  some 0
              else
                none
            else
              some 0
    else
      some 1
  else
    if a1 = 4 then
      if j49_s0 = 0 then
        some 1
      else
        if a1 = 5 then
          if j49_s0 = 0 then
            if zin a0 67 then
              if (ρ.1.1.2.2 a0.toNatClampNeg) = 8 then
                some 1
              else
                if a1 = 6 then
                  if zin a0 67 then
                    if (ρ.1.1.2.2 a0.toNatClampNeg) = 0 then
                      some 1
                    else
                      if a1 = 8 then
                        if zin a0 67 then
                          if (ρ.1.2.1.1.2 a0.toNatClampNeg) = 0 then
                            some 1
                          else
                            some 0
                        else
                          none
                      else
                        some 0
                  else
                    none
                else
                  if a1 = 8 then
                    if zin a0 67 then
                      if (ρ.1.2.1.1.2 a0.toNatClampNeg) = 0 then
                        some 1
                      else
                        some 0
                    else
                      none
                  else
                    some 0
            else
              none
          else
            some 1
        else
          if a1 = 6 then
            if zin a0 67 then
              if (ρ.1.1.2.2 a0.toNatClampNeg) = 0 then
                some 1
              else
                if a1 = 8 then
                  if zin a0 67 then
                    if (ρ.1.2.1.1.2 a0.toNatClampNeg) = 0 then
                      some 1
                    else
                      some 0
                  else
                    none
                else
                  some 0
            else
              none
          else
            if a1 = 8 then
              if zin a0 67 then
                if (ρ.1.2.1.1.2 a0.toNatClampNeg) = 0 then
                  some 1
                else
                  some 0
              else
                none
            else
              some 0
    else
      if a1 = 5 then
        if j49_s0 = 0 then
          if zin a0 67 then
            if (ρ.1.1.2.2 a0.toNatClampNeg) = 8 then
              some 1
            else
              if a1 = 6 then
                if zin a0 67 then
                  if (ρ.1.1.2.2 a0.toNatClampNeg) = 0 then
                    some 1
                  else
                    if a1 = 8 then
                      if zin a0 67 then
                        if (ρ.1.2.1.1.2 a0.toNatClampNeg) = 0 then
                          some 1
                        else
                          some 0
                      else
                        none
                    else
                      some 0
                else
                  none
              else
                if a1 = 8 then
                  if zin a0 67 then
                    if (ρ.1.2.1.1.2 a0.toNatClampNeg) = 0 then
                      some 1
                    else
                      some 0
                  else
                    none
                else
                  some 0
          else
            none
        else
          some 1
      else
        if a1 = 6 then
          if zin a0 67 then
            if (ρ.1.1.2.2 a0.toNatClampNeg) = 0 then
              some 1
            else
              if a1 = 8 then
                if zin a0 67 then
                  if (ρ.1.2.1.1.2 a0.toNatClampNeg) = 0 then
                    some 1
                  else
                    some 0
                else
                  none
              else
                some 0
          else
            none
        else
          if a1 = 8 then
            if zin a0 67 then
              if (ρ.1.2.1.1.2 a0.toNatClampNeg) = 0 then
                some 1
              else
                some 0
            else
              none
          else
            some 0
def f_R_unfit (ρ : RSt) (a0 : Int32) (a1 : Int32) (a2 : Int64) : Option (Int32) :=
  if 5 ≤ a1 then
    if a1 = 5 then
      Option.bind (f_R_placeOf ρ a0 a2.toInt32) (fun v38 =>
        if v38 < 0 then
          J_R_unfit_49_4 ρ a0 a1 0
        else
          J_R_unfit_49_4 ρ a0 a1 1)
    else
      J_R_unfit_49_4 ρ a0 a1 0
  else
    if zin a0 67 then
      if (lg_cmp ((zr_l (ρ.1.1.2.1.2 a0.toNatClampNeg) a2.toInt32) &&& 1) 1) = 0 then
        J_R_unfit_49_4 ρ a0 a1 1
      else
        J_R_unfit_49_4 ρ a0 a1 0
    else
      none
set_option maxHeartbeats 4000000 in
set_option maxRecDepth 100000 in
theorem c_R_unfit (l : Launch) (D : va_G) (tys : List (ClassId × FieldType)) (q : Nat → Nat) (cR : Nat → ClassId) (ρ : RSt) (a0 : Int32) (a1 : Int32) (a2 : Int64) (v : Int32) (hres : f_R_unfit ρ a0 a1 a2 = some v) : Met l y_R_unfit w_R_unfit ({ frames := 1, cells := 0, slots := 0, locals := 23 } : Room) (va_Pc ([.ref (q 0), .int a0, .int a1, .long a2]) (zro D (zRt cR) (zR q cR ρ))) (vp_Si (fun r : Int32 => r = v)) 0 0 (fun _ => False) := by
  refine Met.ofW (cc := b_R_unfit) (maxL := 6) (ret := (some .boolean)) (by decide) rfl ?_
  intro p e s m args below meth c s₁ B hml hv
  obtain ⟨rfl, hP, hK, hN⟩ := hv
  have hx := B.exec
  have hb := B.bytes
  have hr := B.returns
  have hts : ∀ w ∈ zt, w.before ([.ref (q 0), .int a0, .int a1, .long a2].toArray) s = true := fun w h => atoms_spec (ws := w_R_unfit) B.pre w (List.mem_cons_of_mem _ h)
  have hown : s.vm.findClass R_R = some m.cls := findClass_of_methodNamed B.named
  have hlocks := B.notSynchronized
  have hl := lv_entry ([.ref (q 0), .int a0, .int a1, .long a2]) (n := 6) (Nat.le_of_ble_eq_true rfl)
  rw [lg_entry_eq]
  generalize (lg_sl ([.ref (q 0), .int a0, .int a1, .long a2]) ++ List.replicate (6 - (lg_sl ([.ref (q 0), .int a0, .int a1, .long a2])).length) Slot.unset).toArray = ls at hl ⊢
  have hl : lv_has ls 6 [(0, .ref (q 0)), (1, .int a0), (2, .int a1), (3, .long a2)] := hl
  unfold f_R_unfit at hres
  refine lv_iload_n hx hb d_R_unfit_0 rfl (lv_at hl 2 rfl) ?_
  refine lv_iconst (v := 5) hx hb d_R_unfit_1 (by decide) ?_
  have hj49 : ∀ (j49_s0 : Int32) (ls : Array Slot), lv_has ls 6 [(0, .ref (q 0)), (1, .int a0), (2, .int a1), (3, .long a2)] → J_R_unfit_49_4 ρ a0 a1 j49_s0 = some v → W p l e (headSpec w_R_unfit ({ frames := 1, cells := 0, slots := 0, locals := 23 } : Room)).room s m ([.ref (q 0), .int a0, .int a1, .long a2].toArray) below meth c s.heap [] 0 0 (MQ below (vp_Si (fun r : Int32 => r = v)) ([.ref (q 0), .int a0, .int a1, .long a2].toArray) s 0 0 (fun _ => False)) (F0 m 49 ls [.int j49_s0]) := by
    intro j49_s0 ls hl hres
    unfold J_R_unfit_49_4 at hres
    refine lv_istore (lv' := [(5, .int j49_s0), (0, .ref (q 0)), (1, .int a0), (2, .int a1), (3, .long a2)]) hx hb d_R_unfit_49 hl (by decide) rfl (fun ls hl => ?_)
    refine lv_iload_n hx hb d_R_unfit_51 rfl (lv_at hl 3 rfl) ?_
    refine lv_iconst (v := 3) hx hb d_R_unfit_52 (by decide) ?_
    refine lv_icmp_ne (tgt := 61) hx hb d_R_unfit_53 (by decide) (fun c_53 => ?_) (fun c_53 => ?_)
    · have hres := zi_n c_53 hres
      refine lv_iload_n hx hb d_R_unfit_61 rfl (lv_at hl 3 rfl) ?_
      refine lv_iconst (v := 4) hx hb d_R_unfit_62 (by decide) ?_
      refine lv_icmp_ne (tgt := 71) hx hb d_R_unfit_63 (by decide) (fun c_63 => ?_) (fun c_63 => ?_)
      · have hres := zi_n c_63 hres
        refine lv_iload_n hx hb d_R_unfit_71 rfl (lv_at hl 3 rfl) ?_
        refine lv_iconst (v := 5) hx hb d_R_unfit_72 (by decide) ?_
        refine lv_icmp_ne (tgt := 92) hx hb d_R_unfit_73 (by decide) (fun c_73 => ?_) (fun c_73 => ?_)
        · have hres := zi_n c_73 hres
          refine lv_iload_n hx hb d_R_unfit_92 rfl (lv_at hl 3 rfl) ?_
          refine lv_bipush (v := 6) hx hb d_R_unfit_93 (by decide) ?_
          refine lv_icmp_ne (tgt := 107) hx hb d_R_unfit_95 (by decide) (fun c_95 => ?_) (fun c_95 => ?_)
          · have hres := zi_n c_95 hres
            refine lv_iload_n hx hb d_R_unfit_107 rfl (lv_at hl 3 rfl) ?_
            refine lv_bipush (v := 8) hx hb d_R_unfit_108 (by decide) ?_
            refine lv_icmp_ne (tgt := 126) hx hb d_R_unfit_110 (by decide) (fun c_110 => ?_) (fun c_110 => ?_)
            · have hres := zi_n c_110 hres
              refine lv_iconst (v := 0) hx hb d_R_unfit_126 (by decide) ?_
              obtain rfl := Option.some.inj hres
              exact W.zret (v := 0) (ty := .boolean) hx hb hr rfl (fun t ht hW => ⟨_, rfl, rfl, ht⟩) (fun _ hq => by cases hq) d_R_unfit_127
            · have hres := zi_p c_110 hres
              refine lv_aload_n hx hb d_R_unfit_113 rfl (lv_at hl 1 rfl) ?_
              refine va_get (D := D) (ci := 4) (v := .ref (q 8)) (C := R_R) (T := T_R) (N := 23) hx hb hts in_R hown hK hP (0) rfl rfl 7 (by decide) (hts _ k_435) (fun _ h9 => h9) rfl d_R_unfit_114 ?_
              refine lv_iload_n hx hb d_R_unfit_117 rfl (lv_at hl 2 rfl) ?_
              by_cases ck_118 : zin a0 67
              · have hres := zi_p ck_118 hres
                refine va_zald hx hb hK hP 8 7 rfl rfl ck_118 d_R_unfit_118 ?_
                refine lv_if_ne (tgt := 126) hx hb d_R_unfit_119 (by decide) (fun c_119 => ?_) (fun c_119 => ?_)
                · have hres := zi_n c_119 hres
                  refine lv_iconst (v := 0) hx hb d_R_unfit_126 (by decide) ?_
                  obtain rfl := Option.some.inj hres
                  exact W.zret (v := 0) (ty := .boolean) hx hb hr rfl (fun t ht hW => ⟨_, rfl, rfl, ht⟩) (fun _ hq => by cases hq) d_R_unfit_127
                · have hres := zi_p c_119 hres
                  refine lv_iconst (v := 1) hx hb d_R_unfit_122 (by decide) ?_
                  refine lv_goto (tgt := 127) hx hb d_R_unfit_123 (by decide) ?_
                  obtain rfl := Option.some.inj hres
                  exact W.zret (v := 1) (ty := .boolean) hx hb hr rfl (fun t ht hW => ⟨_, rfl, rfl, ht⟩) (fun _ hq => by cases hq) d_R_unfit_127
              · exact absurd (zi_n ck_118 hres) (by simp)
          · have hres := zi_p c_95 hres
            refine lv_aload_n hx hb d_R_unfit_98 rfl (lv_at hl 1 rfl) ?_
            refine va_get (D := D) (ci := 4) (v := .ref (q 6)) (C := R_R) (T := T_R) (N := 23) hx hb hts in_R hown hK hP (0) rfl rfl 5 (by decide) (hts _ k_433) (fun _ h9 => h9) rfl d_R_unfit_99 ?_
            refine lv_iload_n hx hb d_R_unfit_102 rfl (lv_at hl 2 rfl) ?_
            by_cases ck_103 : zin a0 67
            · have hres := zi_p ck_103 hres
              refine va_iald hx hb hK hP 6 5 rfl rfl ck_103 d_R_unfit_103 ?_
              refine lv_if_eq (tgt := 122) hx hb d_R_unfit_104 (by decide) (fun c_104 => ?_) (fun c_104 => ?_)
              · have hres := zi_p c_104 hres
                refine lv_iconst (v := 1) hx hb d_R_unfit_122 (by decide) ?_
                refine lv_goto (tgt := 127) hx hb d_R_unfit_123 (by decide) ?_
                obtain rfl := Option.some.inj hres
                exact W.zret (v := 1) (ty := .boolean) hx hb hr rfl (fun t ht hW => ⟨_, rfl, rfl, ht⟩) (fun _ hq => by cases hq) d_R_unfit_127
              · have hres := zi_n c_104 hres
                refine lv_iload_n hx hb d_R_unfit_107 rfl (lv_at hl 3 rfl) ?_
                refine lv_bipush (v := 8) hx hb d_R_unfit_108 (by decide) ?_
                refine lv_icmp_ne (tgt := 126) hx hb d_R_unfit_110 (by decide) (fun c_110 => ?_) (fun c_110 => ?_)
                · have hres := zi_n c_110 hres
                  refine lv_iconst (v := 0) hx hb d_R_unfit_126 (by decide) ?_
                  obtain rfl := Option.some.inj hres
                  exact W.zret (v := 0) (ty := .boolean) hx hb hr rfl (fun t ht hW => ⟨_, rfl, rfl, ht⟩) (fun _ hq => by cases hq) d_R_unfit_127
                · have hres := zi_p c_110 hres
                  refine lv_aload_n hx hb d_R_unfit_113 rfl (lv_at hl 1 rfl) ?_
                  refine va_get (D := D) (ci := 4) (v := .ref (q 8)) (C := R_R) (T := T_R) (N := 23) hx hb hts in_R hown hK hP (0) rfl rfl 7 (by decide) (hts _ k_435) (fun _ h9 => h9) rfl d_R_unfit_114 ?_
                  refine lv_iload_n hx hb d_R_unfit_117 rfl (lv_at hl 2 rfl) ?_
                  by_cases ck_118 : zin a0 67
                  · have hres := zi_p ck_118 hres
                    refine va_zald hx hb hK hP 8 7 rfl rfl ck_118 d_R_unfit_118 ?_
                    refine lv_if_ne (tgt := 126) hx hb d_R_unfit_119 (by decide) (fun c_119 => ?_) (fun c_119 => ?_)
                    · have hres := zi_n c_119 hres
                      refine lv_iconst (v := 0) hx hb d_R_unfit_126 (by decide) ?_
                      obtain rfl := Option.some.inj hres
                      exact W.zret (v := 0) (ty := .boolean) hx hb hr rfl (fun t ht hW => ⟨_, rfl, rfl, ht⟩) (fun _ hq => by cases hq) d_R_unfit_127
                    · have hres := zi_p c_119 hres
                      refine lv_iconst (v := 1) hx hb d_R_unfit_122 (by decide) ?_
                      refine lv_goto (tgt := 127) hx hb d_R_unfit_123 (by decide) ?_
                      obtain rfl := Option.some.inj hres
                      exact W.zret (v := 1) (ty := .boolean) hx hb hr rfl (fun t ht hW => ⟨_, rfl, rfl, ht⟩) (fun _ hq => by cases hq) d_R_unfit_127
                  · exact absurd (zi_n ck_118 hres) (by simp)
            · exact absurd (zi_n ck_103 hres) (by simp)
        · have hres := zi_p c_73 hres
          refine lv_iload hx hb d_R_unfit_76 (lv_at hl 0 rfl) ?_
          refine lv_if_ne (tgt := 122) hx hb d_R_unfit_78 (by decide) (fun c_78 => ?_) (fun c_78 => ?_)
          · have hres := zi_n c_78 hres
            refine lv_iconst (v := 1) hx hb d_R_unfit_122 (by decide) ?_
            refine lv_goto (tgt := 127) hx hb d_R_unfit_123 (by decide) ?_
            obtain rfl := Option.some.inj hres
            exact W.zret (v := 1) (ty := .boolean) hx hb hr rfl (fun t ht hW => ⟨_, rfl, rfl, ht⟩) (fun _ hq => by cases hq) d_R_unfit_127
          · have hres := zi_p c_78 hres
            refine lv_aload_n hx hb d_R_unfit_81 rfl (lv_at hl 1 rfl) ?_
            refine va_get (D := D) (ci := 4) (v := .ref (q 6)) (C := R_R) (T := T_R) (N := 23) hx hb hts in_R hown hK hP (0) rfl rfl 5 (by decide) (hts _ k_433) (fun _ h9 => h9) rfl d_R_unfit_82 ?_
            refine lv_iload_n hx hb d_R_unfit_85 rfl (lv_at hl 2 rfl) ?_
            by_cases ck_86 : zin a0 67
            · have hres := zi_p ck_86 hres
              refine va_iald hx hb hK hP 6 5 rfl rfl ck_86 d_R_unfit_86 ?_
              refine lv_bipush (v := 8) hx hb d_R_unfit_87 (by decide) ?_
              refine lv_icmp_eq (tgt := 122) hx hb d_R_unfit_89 (by decide) (fun c_89 => ?_) (fun c_89 => ?_)
              · have hres := zi_p c_89 hres
                refine lv_iconst (v := 1) hx hb d_R_unfit_122 (by decide) ?_
                refine lv_goto (tgt := 127) hx hb d_R_unfit_123 (by decide) ?_
                obtain rfl := Option.some.inj hres
                exact W.zret (v := 1) (ty := .boolean) hx hb hr rfl (fun t ht hW => ⟨_, rfl, rfl, ht⟩) (fun _ hq => by cases hq) d_R_unfit_127
              · have hres := zi_n c_89 hres
                refine lv_iload_n hx hb d_R_unfit_92 rfl (lv_at hl 3 rfl) ?_
                refine lv_bipush (v := 6) hx hb d_R_unfit_93 (by decide) ?_
                refine lv_icmp_ne (tgt := 107) hx hb d_R_unfit_95 (by decide) (fun c_95 => ?_) (fun c_95 => ?_)
                · have hres := zi_n c_95 hres
                  refine lv_iload_n hx hb d_R_unfit_107 rfl (lv_at hl 3 rfl) ?_
                  refine lv_bipush (v := 8) hx hb d_R_unfit_108 (by decide) ?_
                  refine lv_icmp_ne (tgt := 126) hx hb d_R_unfit_110 (by decide) (fun c_110 => ?_) (fun c_110 => ?_)
                  · have hres := zi_n c_110 hres
                    refine lv_iconst (v := 0) hx hb d_R_unfit_126 (by decide) ?_
                    obtain rfl := Option.some.inj hres
                    exact W.zret (v := 0) (ty := .boolean) hx hb hr rfl (fun t ht hW => ⟨_, rfl, rfl, ht⟩) (fun _ hq => by cases hq) d_R_unfit_127
                  · have hres := zi_p c_110 hres
                    refine lv_aload_n hx hb d_R_unfit_113 rfl (lv_at hl 1 rfl) ?_
                    refine va_get (D := D) (ci := 4) (v := .ref (q 8)) (C := R_R) (T := T_R) (N := 23) hx hb hts in_R hown hK hP (0) rfl rfl 7 (by decide) (hts _ k_435) (fun _ h9 => h9) rfl d_R_unfit_114 ?_
                    refine lv_iload_n hx hb d_R_unfit_117 rfl (lv_at hl 2 rfl) ?_
                    by_cases ck_118 : zin a0 67
                    · have hres := zi_p ck_118 hres
                      refine va_zald hx hb hK hP 8 7 rfl rfl ck_118 d_R_unfit_118 ?_
                      refine lv_if_ne (tgt := 126) hx hb d_R_unfit_119 (by decide) (fun c_119 => ?_) (fun c_119 => ?_)
                      · have hres := zi_n c_119 hres
                        refine lv_iconst (v := 0) hx hb d_R_unfit_126 (by decide) ?_
                        obtain rfl := Option.some.inj hres
                        exact W.zret (v := 0) (ty := .boolean) hx hb hr rfl (fun t ht hW => ⟨_, rfl, rfl, ht⟩) (fun _ hq => by cases hq) d_R_unfit_127
                      · have hres := zi_p c_119 hres
                        refine lv_iconst (v := 1) hx hb d_R_unfit_122 (by decide) ?_
                        refine lv_goto (tgt := 127) hx hb d_R_unfit_123 (by decide) ?_
                        obtain rfl := Option.some.inj hres
                        exact W.zret (v := 1) (ty := .boolean) hx hb hr rfl (fun t ht hW => ⟨_, rfl, rfl, ht⟩) (fun _ hq => by cases hq) d_R_unfit_127
                    · exact absurd (zi_n ck_118 hres) (by simp)
                · have hres := zi_p c_95 hres
                  refine lv_aload_n hx hb d_R_unfit_98 rfl (lv_at hl 1 rfl) ?_
                  refine va_get (D := D) (ci := 4) (v := .ref (q 6)) (C := R_R) (T := T_R) (N := 23) hx hb hts in_R hown hK hP (0) rfl rfl 5 (by decide) (hts _ k_433) (fun _ h9 => h9) rfl d_R_unfit_99 ?_
                  refine lv_iload_n hx hb d_R_unfit_102 rfl (lv_at hl 2 rfl) ?_
                  by_cases ck_103 : zin a0 67
                  · have hres := zi_p ck_103 hres
                    refine va_iald hx hb hK hP 6 5 rfl rfl ck_103 d_R_unfit_103 ?_
                    refine lv_if_eq (tgt := 122) hx hb d_R_unfit_104 (by decide) (fun c_104 => ?_) (fun c_104 => ?_)
                    · have hres := zi_p c_104 hres
                      refine lv_iconst (v := 1) hx hb d_R_unfit_122 (by decide) ?_
                      refine lv_goto (tgt := 127) hx hb d_R_unfit_123 (by decide) ?_
                      obtain rfl := Option.some.inj hres
                      exact W.zret (v := 1) (ty := .boolean) hx hb hr rfl (fun t ht hW => ⟨_, rfl, rfl, ht⟩) (fun _ hq => by cases hq) d_R_unfit_127
                    · have hres := zi_n c_104 hres
                      refine lv_iload_n hx hb d_R_unfit_107 rfl (lv_at hl 3 rfl) ?_
                      refine lv_bipush (v := 8) hx hb d_R_unfit_108 (by decide) ?_
                      refine lv_icmp_ne (tgt := 126) hx hb d_R_unfit_110 (by decide) (fun c_110 => ?_) (fun c_110 => ?_)
                      · have hres := zi_n c_110 hres
                        refine lv_iconst (v := 0) hx hb d_R_unfit_126 (by decide) ?_
                        obtain rfl := Option.some.inj hres
                        exact W.zret (v := 0) (ty := .boolean) hx hb hr rfl (fun t ht hW => ⟨_, rfl, rfl, ht⟩) (fun _ hq => by cases hq) d_R_unfit_127
                      · have hres := zi_p c_110 hres
                        refine lv_aload_n hx hb d_R_unfit_113 rfl (lv_at hl 1 rfl) ?_
                        refine va_get (D := D) (ci := 4) (v := .ref (q 8)) (C := R_R) (T := T_R) (N := 23) hx hb hts in_R hown hK hP (0) rfl rfl 7 (by decide) (hts _ k_435) (fun _ h9 => h9) rfl d_R_unfit_114 ?_
                        refine lv_iload_n hx hb d_R_unfit_117 rfl (lv_at hl 2 rfl) ?_
                        by_cases ck_118 : zin a0 67
                        · have hres := zi_p ck_118 hres
                          refine va_zald hx hb hK hP 8 7 rfl rfl ck_118 d_R_unfit_118 ?_
                          refine lv_if_ne (tgt := 126) hx hb d_R_unfit_119 (by decide) (fun c_119 => ?_) (fun c_119 => ?_)
                          · have hres := zi_n c_119 hres
                            refine lv_iconst (v := 0) hx hb d_R_unfit_126 (by decide) ?_
                            obtain rfl := Option.some.inj hres
                            exact W.zret (v := 0) (ty := .boolean) hx hb hr rfl (fun t ht hW => ⟨_, rfl, rfl, ht⟩) (fun _ hq => by cases hq) d_R_unfit_127
                          · have hres := zi_p c_119 hres
                            refine lv_iconst (v := 1) hx hb d_R_unfit_122 (by decide) ?_
                            refine lv_goto (tgt := 127) hx hb d_R_unfit_123 (by decide) ?_
                            obtain rfl := Option.some.inj hres
                            exact W.zret (v := 1) (ty := .boolean) hx hb hr rfl (fun t ht hW => ⟨_, rfl, rfl, ht⟩) (fun _ hq => by cases hq) d_R_unfit_127
                        · exact absurd (zi_n ck_118 hres) (by simp)
                  · exact absurd (zi_n ck_103 hres) (by simp)
            · exact absurd (zi_n ck_86 hres) (by simp)
      · have hres := zi_p c_63 hres
        refine lv_iload hx hb d_R_unfit_66 (lv_at hl 0 rfl) ?_
        refine lv_if_eq (tgt := 122) hx hb d_R_unfit_68 (by decide) (fun c_68 => ?_) (fun c_68 => ?_)
        · have hres := zi_p c_68 hres
          refine lv_iconst (v := 1) hx hb d_R_unfit_122 (by decide) ?_
          refine lv_goto (tgt := 127) hx hb d_R_unfit_123 (by decide) ?_
          obtain rfl := Option.some.inj hres
          exact W.zret (v := 1) (ty := .boolean) hx hb hr rfl (fun t ht hW => ⟨_, rfl, rfl, ht⟩) (fun _ hq => by cases hq) d_R_unfit_127
        · have hres := zi_n c_68 hres
          refine lv_iload_n hx hb d_R_unfit_71 rfl (lv_at hl 3 rfl) ?_
          refine lv_iconst (v := 5) hx hb d_R_unfit_72 (by decide) ?_
          refine lv_icmp_ne (tgt := 92) hx hb d_R_unfit_73 (by decide) (fun c_73 => ?_) (fun c_73 => ?_)
          · have hres := zi_n c_73 hres
            refine lv_iload_n hx hb d_R_unfit_92 rfl (lv_at hl 3 rfl) ?_
            refine lv_bipush (v := 6) hx hb d_R_unfit_93 (by decide) ?_
            refine lv_icmp_ne (tgt := 107) hx hb d_R_unfit_95 (by decide) (fun c_95 => ?_) (fun c_95 => ?_)
            · have hres := zi_n c_95 hres
              refine lv_iload_n hx hb d_R_unfit_107 rfl (lv_at hl 3 rfl) ?_
              refine lv_bipush (v := 8) hx hb d_R_unfit_108 (by decide) ?_
              refine lv_icmp_ne (tgt := 126) hx hb d_R_unfit_110 (by decide) (fun c_110 => ?_) (fun c_110 => ?_)
              · have hres := zi_n c_110 hres
                refine lv_iconst (v := 0) hx hb d_R_unfit_126 (by decide) ?_
                obtain rfl := Option.some.inj hres
                exact W.zret (v := 0) (ty := .boolean) hx hb hr rfl (fun t ht hW => ⟨_, rfl, rfl, ht⟩) (fun _ hq => by cases hq) d_R_unfit_127
              · have hres := zi_p c_110 hres
                refine lv_aload_n hx hb d_R_unfit_113 rfl (lv_at hl 1 rfl) ?_
                refine va_get (D := D) (ci := 4) (v := .ref (q 8)) (C := R_R) (T := T_R) (N := 23) hx hb hts in_R hown hK hP (0) rfl rfl 7 (by decide) (hts _ k_435) (fun _ h9 => h9) rfl d_R_unfit_114 ?_
                refine lv_iload_n hx hb d_R_unfit_117 rfl (lv_at hl 2 rfl) ?_
                by_cases ck_118 : zin a0 67
                · have hres := zi_p ck_118 hres
                  refine va_zald hx hb hK hP 8 7 rfl rfl ck_118 d_R_unfit_118 ?_
                  refine lv_if_ne (tgt := 126) hx hb d_R_unfit_119 (by decide) (fun c_119 => ?_) (fun c_119 => ?_)
                  · have hres := zi_n c_119 hres
                    refine lv_iconst (v := 0) hx hb d_R_unfit_126 (by decide) ?_
                    obtain rfl := Option.some.inj hres
                    exact W.zret (v := 0) (ty := .boolean) hx hb hr rfl (fun t ht hW => ⟨_, rfl, rfl, ht⟩) (fun _ hq => by cases hq) d_R_unfit_127
                  · have hres := zi_p c_119 hres
                    refine lv_iconst (v := 1) hx hb d_R_unfit_122 (by decide) ?_
                    refine lv_goto (tgt := 127) hx hb d_R_unfit_123 (by decide) ?_
                    obtain rfl := Option.some.inj hres
                    exact W.zret (v := 1) (ty := .boolean) hx hb hr rfl (fun t ht hW => ⟨_, rfl, rfl, ht⟩) (fun _ hq => by cases hq) d_R_unfit_127
                · exact absurd (zi_n ck_118 hres) (by simp)
            · have hres := zi_p c_95 hres
              refine lv_aload_n hx hb d_R_unfit_98 rfl (lv_at hl 1 rfl) ?_
              refine va_get (D := D) (ci := 4) (v := .ref (q 6)) (C := R_R) (T := T_R) (N := 23) hx hb hts in_R hown hK hP (0) rfl rfl 5 (by decide) (hts _ k_433) (fun _ h9 => h9) rfl d_R_unfit_99 ?_
              refine lv_iload_n hx hb d_R_unfit_102 rfl (lv_at hl 2 rfl) ?_
              by_cases ck_103 : zin a0 67
              · have hres := zi_p ck_103 hres
                refine va_iald hx hb hK hP 6 5 rfl rfl ck_103 d_R_unfit_103 ?_
                refine lv_if_eq (tgt := 122) hx hb d_R_unfit_104 (by decide) (fun c_104 => ?_) (fun c_104 => ?_)
                · have hres := zi_p c_104 hres
                  refine lv_iconst (v := 1) hx hb d_R_unfit_122 (by decide) ?_
                  refine lv_goto (tgt := 127) hx hb d_R_unfit_123 (by decide) ?_
                  obtain rfl := Option.some.inj hres
                  exact W.zret (v := 1) (ty := .boolean) hx hb hr rfl (fun t ht hW => ⟨_, rfl, rfl, ht⟩) (fun _ hq => by cases hq) d_R_unfit_127
                · have hres := zi_n c_104 hres
                  refine lv_iload_n hx hb d_R_unfit_107 rfl (lv_at hl 3 rfl) ?_
                  refine lv_bipush (v := 8) hx hb d_R_unfit_108 (by decide) ?_
                  refine lv_icmp_ne (tgt := 126) hx hb d_R_unfit_110 (by decide) (fun c_110 => ?_) (fun c_110 => ?_)
                  · have hres := zi_n c_110 hres
                    refine lv_iconst (v := 0) hx hb d_R_unfit_126 (by decide) ?_
                    obtain rfl := Option.some.inj hres
                    exact W.zret (v := 0) (ty := .boolean) hx hb hr rfl (fun t ht hW => ⟨_, rfl, rfl, ht⟩) (fun _ hq => by cases hq) d_R_unfit_127
                  · have hres := zi_p c_110 hres
                    refine lv_aload_n hx hb d_R_unfit_113 rfl (lv_at hl 1 rfl) ?_
                    refine va_get (D := D) (ci := 4) (v := .ref (q 8)) (C := R_R) (T := T_R) (N := 23) hx hb hts in_R hown hK hP (0) rfl rfl 7 (by decide) (hts _ k_435) (fun _ h9 => h9) rfl d_R_unfit_114 ?_
                    refine lv_iload_n hx hb d_R_unfit_117 rfl (lv_at hl 2 rfl) ?_
                    by_cases ck_118 : zin a0 67
                    · have hres := zi_p ck_118 hres
                      refine va_zald hx hb hK hP 8 7 rfl rfl ck_118 d_R_unfit_118 ?_
                      refine lv_if_ne (tgt := 126) hx hb d_R_unfit_119 (by decide) (fun c_119 => ?_) (fun c_119 => ?_)
                      · have hres := zi_n c_119 hres
                        refine lv_iconst (v := 0) hx hb d_R_unfit_126 (by decide) ?_
                        obtain rfl := Option.some.inj hres
                        exact W.zret (v := 0) (ty := .boolean) hx hb hr rfl (fun t ht hW => ⟨_, rfl, rfl, ht⟩) (fun _ hq => by cases hq) d_R_unfit_127
                      · have hres := zi_p c_119 hres
                        refine lv_iconst (v := 1) hx hb d_R_unfit_122 (by decide) ?_
                        refine lv_goto (tgt := 127) hx hb d_R_unfit_123 (by decide) ?_
                        obtain rfl := Option.some.inj hres
                        exact W.zret (v := 1) (ty := .boolean) hx hb hr rfl (fun t ht hW => ⟨_, rfl, rfl, ht⟩) (fun _ hq => by cases hq) d_R_unfit_127
                    · exact absurd (zi_n ck_118 hres) (by simp)
              · exact absurd (zi_n ck_103 hres) (by simp)
          · have hres := zi_p c_73 hres
            refine lv_iload hx hb d_R_unfit_76 (lv_at hl 0 rfl) ?_
            refine lv_if_ne (tgt := 122) hx hb d_R_unfit_78 (by decide) (fun c_78 => ?_) (fun c_78 => ?_)
            · have hres := zi_n c_78 hres
              refine lv_iconst (v := 1) hx hb d_R_unfit_122 (by decide) ?_
              refine lv_goto (tgt := 127) hx hb d_R_unfit_123 (by decide) ?_
              obtain rfl := Option.some.inj hres
              exact W.zret (v := 1) (ty := .boolean) hx hb hr rfl (fun t ht hW => ⟨_, rfl, rfl, ht⟩) (fun _ hq => by cases hq) d_R_unfit_127
            · have hres := zi_p c_78 hres
              refine lv_aload_n hx hb d_R_unfit_81 rfl (lv_at hl 1 rfl) ?_
              refine va_get (D := D) (ci := 4) (v := .ref (q 6)) (C := R_R) (T := T_R) (N := 23) hx hb hts in_R hown hK hP (0) rfl rfl 5 (by decide) (hts _ k_433) (fun _ h9 => h9) rfl d_R_unfit_82 ?_
              refine lv_iload_n hx hb d_R_unfit_85 rfl (lv_at hl 2 rfl) ?_
              by_cases ck_86 : zin a0 67
              · have hres := zi_p ck_86 hres
                refine va_iald hx hb hK hP 6 5 rfl rfl ck_86 d_R_unfit_86 ?_
                refine lv_bipush (v := 8) hx hb d_R_unfit_87 (by decide) ?_
                refine lv_icmp_eq (tgt := 122) hx hb d_R_unfit_89 (by decide) (fun c_89 => ?_) (fun c_89 => ?_)
                · have hres := zi_p c_89 hres
                  refine lv_iconst (v := 1) hx hb d_R_unfit_122 (by decide) ?_
                  refine lv_goto (tgt := 127) hx hb d_R_unfit_123 (by decide) ?_
                  obtain rfl := Option.some.inj hres
                  exact W.zret (v := 1) (ty := .boolean) hx hb hr rfl (fun t ht hW => ⟨_, rfl, rfl, ht⟩) (fun _ hq => by cases hq) d_R_unfit_127
                · have hres := zi_n c_89 hres
                  refine lv_iload_n hx hb d_R_unfit_92 rfl (lv_at hl 3 rfl) ?_
                  refine lv_bipush (v := 6) hx hb d_R_unfit_93 (by decide) ?_
                  refine lv_icmp_ne (tgt := 107) hx hb d_R_unfit_95 (by decide) (fun c_95 => ?_) (fun c_95 => ?_)
                  · have hres := zi_n c_95 hres
                    refine lv_iload_n hx hb d_R_unfit_107 rfl (lv_at hl 3 rfl) ?_
                    refine lv_bipush (v := 8) hx hb d_R_unfit_108 (by decide) ?_
                    refine lv_icmp_ne (tgt := 126) hx hb d_R_unfit_110 (by decide) (fun c_110 => ?_) (fun c_110 => ?_)
                    · have hres := zi_n c_110 hres
                      refine lv_iconst (v := 0) hx hb d_R_unfit_126 (by decide) ?_
                      obtain rfl := Option.some.inj hres
                      exact W.zret (v := 0) (ty := .boolean) hx hb hr rfl (fun t ht hW => ⟨_, rfl, rfl, ht⟩) (fun _ hq => by cases hq) d_R_unfit_127
                    · have hres := zi_p c_110 hres
                      refine lv_aload_n hx hb d_R_unfit_113 rfl (lv_at hl 1 rfl) ?_
                      refine va_get (D := D) (ci := 4) (v := .ref (q 8)) (C := R_R) (T := T_R) (N := 23) hx hb hts in_R hown hK hP (0) rfl rfl 7 (by decide) (hts _ k_435) (fun _ h9 => h9) rfl d_R_unfit_114 ?_
                      refine lv_iload_n hx hb d_R_unfit_117 rfl (lv_at hl 2 rfl) ?_
                      by_cases ck_118 : zin a0 67
                      · have hres := zi_p ck_118 hres
                        refine va_zald hx hb hK hP 8 7 rfl rfl ck_118 d_R_unfit_118 ?_
                        refine lv_if_ne (tgt := 126) hx hb d_R_unfit_119 (by decide) (fun c_119 => ?_) (fun c_119 => ?_)
                        · have hres := zi_n c_119 hres
                          refine lv_iconst (v := 0) hx hb d_R_unfit_126 (by decide) ?_
                          obtain rfl := Option.some.inj hres
                          exact W.zret (v := 0) (ty := .boolean) hx hb hr rfl (fun t ht hW => ⟨_, rfl, rfl, ht⟩) (fun _ hq => by cases hq) d_R_unfit_127
                        · have hres := zi_p c_119 hres
                          refine lv_iconst (v := 1) hx hb d_R_unfit_122 (by decide) ?_
                          refine lv_goto (tgt := 127) hx hb d_R_unfit_123 (by decide) ?_
                          obtain rfl := Option.some.inj hres
                          exact W.zret (v := 1) (ty := .boolean) hx hb hr rfl (fun t ht hW => ⟨_, rfl, rfl, ht⟩) (fun _ hq => by cases hq) d_R_unfit_127
                      · exact absurd (zi_n ck_118 hres) (by simp)
                  · have hres := zi_p c_95 hres
                    refine lv_aload_n hx hb d_R_unfit_98 rfl (lv_at hl 1 rfl) ?_
                    refine va_get (D := D) (ci := 4) (v := .ref (q 6)) (C := R_R) (T := T_R) (N := 23) hx hb hts in_R hown hK hP (0) rfl rfl 5 (by decide) (hts _ k_433) (fun _ h9 => h9) rfl d_R_unfit_99 ?_
                    refine lv_iload_n hx hb d_R_unfit_102 rfl (lv_at hl 2 rfl) ?_
                    by_cases ck_103 : zin a0 67
                    · have hres := zi_p ck_103 hres
                      refine va_iald hx hb hK hP 6 5 rfl rfl ck_103 d_R_unfit_103 ?_
                      refine lv_if_eq (tgt := 122) hx hb d_R_unfit_104 (by decide) (fun c_104 => ?_) (fun c_104 => ?_)
                      · have hres := zi_p c_104 hres
                        refine lv_iconst (v := 1) hx hb d_R_unfit_122 (by decide) ?_
                        refine lv_goto (tgt := 127) hx hb d_R_unfit_123 (by decide) ?_
                        obtain rfl := Option.some.inj hres
                        exact W.zret (v := 1) (ty := .boolean) hx hb hr rfl (fun t ht hW => ⟨_, rfl, rfl, ht⟩) (fun _ hq => by cases hq) d_R_unfit_127
                      · have hres := zi_n c_104 hres
                        refine lv_iload_n hx hb d_R_unfit_107 rfl (lv_at hl 3 rfl) ?_
                        refine lv_bipush (v := 8) hx hb d_R_unfit_108 (by decide) ?_
                        refine lv_icmp_ne (tgt := 126) hx hb d_R_unfit_110 (by decide) (fun c_110 => ?_) (fun c_110 => ?_)
                        · have hres := zi_n c_110 hres
                          refine lv_iconst (v := 0) hx hb d_R_unfit_126 (by decide) ?_
                          obtain rfl := Option.some.inj hres
                          exact W.zret (v := 0) (ty := .boolean) hx hb hr rfl (fun t ht hW => ⟨_, rfl, rfl, ht⟩) (fun _ hq => by cases hq) d_R_unfit_127
                        · have hres := zi_p c_110 hres
                          refine lv_aload_n hx hb d_R_unfit_113 rfl (lv_at hl 1 rfl) ?_
                          refine va_get (D := D) (ci := 4) (v := .ref (q 8)) (C := R_R) (T := T_R) (N := 23) hx hb hts in_R hown hK hP (0) rfl rfl 7 (by decide) (hts _ k_435) (fun _ h9 => h9) rfl d_R_unfit_114 ?_
                          refine lv_iload_n hx hb d_R_unfit_117 rfl (lv_at hl 2 rfl) ?_
                          by_cases ck_118 : zin a0 67
                          · have hres := zi_p ck_118 hres
                            refine va_zald hx hb hK hP 8 7 rfl rfl ck_118 d_R_unfit_118 ?_
                            refine lv_if_ne (tgt := 126) hx hb d_R_unfit_119 (by decide) (fun c_119 => ?_) (fun c_119 => ?_)
                            · have hres := zi_n c_119 hres
                              refine lv_iconst (v := 0) hx hb d_R_unfit_126 (by decide) ?_
                              obtain rfl := Option.some.inj hres
                              exact W.zret (v := 0) (ty := .boolean) hx hb hr rfl (fun t ht hW => ⟨_, rfl, rfl, ht⟩) (fun _ hq => by cases hq) d_R_unfit_127
                            · have hres := zi_p c_119 hres
                              refine lv_iconst (v := 1) hx hb d_R_unfit_122 (by decide) ?_
                              refine lv_goto (tgt := 127) hx hb d_R_unfit_123 (by decide) ?_
                              obtain rfl := Option.some.inj hres
                              exact W.zret (v := 1) (ty := .boolean) hx hb hr rfl (fun t ht hW => ⟨_, rfl, rfl, ht⟩) (fun _ hq => by cases hq) d_R_unfit_127
                          · exact absurd (zi_n ck_118 hres) (by simp)
                    · exact absurd (zi_n ck_103 hres) (by simp)
              · exact absurd (zi_n ck_86 hres) (by simp)
    · have hres := zi_p c_53 hres
      refine lv_iload hx hb d_R_unfit_56 (lv_at hl 0 rfl) ?_
      refine lv_if_ne (tgt := 122) hx hb d_R_unfit_58 (by decide) (fun c_58 => ?_) (fun c_58 => ?_)
      · have hres := zi_n c_58 hres
        refine lv_iconst (v := 1) hx hb d_R_unfit_122 (by decide) ?_
        refine lv_goto (tgt := 127) hx hb d_R_unfit_123 (by decide) ?_
        obtain rfl := Option.some.inj hres
        exact W.zret (v := 1) (ty := .boolean) hx hb hr rfl (fun t ht hW => ⟨_, rfl, rfl, ht⟩) (fun _ hq => by cases hq) d_R_unfit_127
      · have hres := zi_p c_58 hres
        refine lv_iload_n hx hb d_R_unfit_61 rfl (lv_at hl 3 rfl) ?_
        refine lv_iconst (v := 4) hx hb d_R_unfit_62 (by decide) ?_
        refine lv_icmp_ne (tgt := 71) hx hb d_R_unfit_63 (by decide) (fun c_63 => ?_) (fun c_63 => ?_)
        · have hres := zi_n c_63 hres
          refine lv_iload_n hx hb d_R_unfit_71 rfl (lv_at hl 3 rfl) ?_
          refine lv_iconst (v := 5) hx hb d_R_unfit_72 (by decide) ?_
          refine lv_icmp_ne (tgt := 92) hx hb d_R_unfit_73 (by decide) (fun c_73 => ?_) (fun c_73 => ?_)
          · have hres := zi_n c_73 hres
            refine lv_iload_n hx hb d_R_unfit_92 rfl (lv_at hl 3 rfl) ?_
            refine lv_bipush (v := 6) hx hb d_R_unfit_93 (by decide) ?_
            refine lv_icmp_ne (tgt := 107) hx hb d_R_unfit_95 (by decide) (fun c_95 => ?_) (fun c_95 => ?_)
            · have hres := zi_n c_95 hres
              refine lv_iload_n hx hb d_R_unfit_107 rfl (lv_at hl 3 rfl) ?_
              refine lv_bipush (v := 8) hx hb d_R_unfit_108 (by decide) ?_
              refine lv_icmp_ne (tgt := 126) hx hb d_R_unfit_110 (by decide) (fun c_110 => ?_) (fun c_110 => ?_)
              · have hres := zi_n c_110 hres
                refine lv_iconst (v := 0) hx hb d_R_unfit_126 (by decide) ?_
                obtain rfl := Option.some.inj hres
                exact W.zret (v := 0) (ty := .boolean) hx hb hr rfl (fun t ht hW => ⟨_, rfl, rfl, ht⟩) (fun _ hq => by cases hq) d_R_unfit_127
              · have hres := zi_p c_110 hres
                refine lv_aload_n hx hb d_R_unfit_113 rfl (lv_at hl 1 rfl) ?_
                refine va_get (D := D) (ci := 4) (v := .ref (q 8)) (C := R_R) (T := T_R) (N := 23) hx hb hts in_R hown hK hP (0) rfl rfl 7 (by decide) (hts _ k_435) (fun _ h9 => h9) rfl d_R_unfit_114 ?_
                refine lv_iload_n hx hb d_R_unfit_117 rfl (lv_at hl 2 rfl) ?_
                by_cases ck_118 : zin a0 67
                · have hres := zi_p ck_118 hres
                  refine va_zald hx hb hK hP 8 7 rfl rfl ck_118 d_R_unfit_118 ?_
                  refine lv_if_ne (tgt := 126) hx hb d_R_unfit_119 (by decide) (fun c_119 => ?_) (fun c_119 => ?_)
                  · have hres := zi_n c_119 hres
                    refine lv_iconst (v := 0) hx hb d_R_unfit_126 (by decide) ?_
                    obtain rfl := Option.some.inj hres
                    exact W.zret (v := 0) (ty := .boolean) hx hb hr rfl (fun t ht hW => ⟨_, rfl, rfl, ht⟩) (fun _ hq => by cases hq) d_R_unfit_127
                  · have hres := zi_p c_119 hres
                    refine lv_iconst (v := 1) hx hb d_R_unfit_122 (by decide) ?_
                    refine lv_goto (tgt := 127) hx hb d_R_unfit_123 (by decide) ?_
                    obtain rfl := Option.some.inj hres
                    exact W.zret (v := 1) (ty := .boolean) hx hb hr rfl (fun t ht hW => ⟨_, rfl, rfl, ht⟩) (fun _ hq => by cases hq) d_R_unfit_127
                · exact absurd (zi_n ck_118 hres) (by simp)
            · have hres := zi_p c_95 hres
              refine lv_aload_n hx hb d_R_unfit_98 rfl (lv_at hl 1 rfl) ?_
              refine va_get (D := D) (ci := 4) (v := .ref (q 6)) (C := R_R) (T := T_R) (N := 23) hx hb hts in_R hown hK hP (0) rfl rfl 5 (by decide) (hts _ k_433) (fun _ h9 => h9) rfl d_R_unfit_99 ?_
              refine lv_iload_n hx hb d_R_unfit_102 rfl (lv_at hl 2 rfl) ?_
              by_cases ck_103 : zin a0 67
              · have hres := zi_p ck_103 hres
                refine va_iald hx hb hK hP 6 5 rfl rfl ck_103 d_R_unfit_103 ?_
                refine lv_if_eq (tgt := 122) hx hb d_R_unfit_104 (by decide) (fun c_104 => ?_) (fun c_104 => ?_)
                · have hres := zi_p c_104 hres
                  refine lv_iconst (v := 1) hx hb d_R_unfit_122 (by decide) ?_
                  refine lv_goto (tgt := 127) hx hb d_R_unfit_123 (by decide) ?_
                  obtain rfl := Option.some.inj hres
                  exact W.zret (v := 1) (ty := .boolean) hx hb hr rfl (fun t ht hW => ⟨_, rfl, rfl, ht⟩) (fun _ hq => by cases hq) d_R_unfit_127
                · have hres := zi_n c_104 hres
                  refine lv_iload_n hx hb d_R_unfit_107 rfl (lv_at hl 3 rfl) ?_
                  refine lv_bipush (v := 8) hx hb d_R_unfit_108 (by decide) ?_
                  refine lv_icmp_ne (tgt := 126) hx hb d_R_unfit_110 (by decide) (fun c_110 => ?_) (fun c_110 => ?_)
                  · have hres := zi_n c_110 hres
                    refine lv_iconst (v := 0) hx hb d_R_unfit_126 (by decide) ?_
                    obtain rfl := Option.some.inj hres
                    exact W.zret (v := 0) (ty := .boolean) hx hb hr rfl (fun t ht hW => ⟨_, rfl, rfl, ht⟩) (fun _ hq => by cases hq) d_R_unfit_127
                  · have hres := zi_p c_110 hres
                    refine lv_aload_n hx hb d_R_unfit_113 rfl (lv_at hl 1 rfl) ?_
                    refine va_get (D := D) (ci := 4) (v := .ref (q 8)) (C := R_R) (T := T_R) (N := 23) hx hb hts in_R hown hK hP (0) rfl rfl 7 (by decide) (hts _ k_435) (fun _ h9 => h9) rfl d_R_unfit_114 ?_
                    refine lv_iload_n hx hb d_R_unfit_117 rfl (lv_at hl 2 rfl) ?_
                    by_cases ck_118 : zin a0 67
                    · have hres := zi_p ck_118 hres
                      refine va_zald hx hb hK hP 8 7 rfl rfl ck_118 d_R_unfit_118 ?_
                      refine lv_if_ne (tgt := 126) hx hb d_R_unfit_119 (by decide) (fun c_119 => ?_) (fun c_119 => ?_)
                      · have hres := zi_n c_119 hres
                        refine lv_iconst (v := 0) hx hb d_R_unfit_126 (by decide) ?_
                        obtain rfl := Option.some.inj hres
                        exact W.zret (v := 0) (ty := .boolean) hx hb hr rfl (fun t ht hW => ⟨_, rfl, rfl, ht⟩) (fun _ hq => by cases hq) d_R_unfit_127
                      · have hres := zi_p c_119 hres
                        refine lv_iconst (v := 1) hx hb d_R_unfit_122 (by decide) ?_
                        refine lv_goto (tgt := 127) hx hb d_R_unfit_123 (by decide) ?_
                        obtain rfl := Option.some.inj hres
                        exact W.zret (v := 1) (ty := .boolean) hx hb hr rfl (fun t ht hW => ⟨_, rfl, rfl, ht⟩) (fun _ hq => by cases hq) d_R_unfit_127
                    · exact absurd (zi_n ck_118 hres) (by simp)
              · exact absurd (zi_n ck_103 hres) (by simp)
          · have hres := zi_p c_73 hres
            refine lv_iload hx hb d_R_unfit_76 (lv_at hl 0 rfl) ?_
            refine lv_if_ne (tgt := 122) hx hb d_R_unfit_78 (by decide) (fun c_78 => ?_) (fun c_78 => ?_)
            · have hres := zi_n c_78 hres
              refine lv_iconst (v := 1) hx hb d_R_unfit_122 (by decide) ?_
              refine lv_goto (tgt := 127) hx hb d_R_unfit_123 (by decide) ?_
              obtain rfl := Option.some.inj hres
              exact W.zret (v := 1) (ty := .boolean) hx hb hr rfl (fun t ht hW => ⟨_, rfl, rfl, ht⟩) (fun _ hq => by cases hq) d_R_unfit_127
            · have hres := zi_p c_78 hres
              refine lv_aload_n hx hb d_R_unfit_81 rfl (lv_at hl 1 rfl) ?_
              refine va_get (D := D) (ci := 4) (v := .ref (q 6)) (C := R_R) (T := T_R) (N := 23) hx hb hts in_R hown hK hP (0) rfl rfl 5 (by decide) (hts _ k_433) (fun _ h9 => h9) rfl d_R_unfit_82 ?_
              refine lv_iload_n hx hb d_R_unfit_85 rfl (lv_at hl 2 rfl) ?_
              by_cases ck_86 : zin a0 67
              · have hres := zi_p ck_86 hres
                refine va_iald hx hb hK hP 6 5 rfl rfl ck_86 d_R_unfit_86 ?_
                refine lv_bipush (v := 8) hx hb d_R_unfit_87 (by decide) ?_
                refine lv_icmp_eq (tgt := 122) hx hb d_R_unfit_89 (by decide) (fun c_89 => ?_) (fun c_89 => ?_)
                · have hres := zi_p c_89 hres
                  refine lv_iconst (v := 1) hx hb d_R_unfit_122 (by decide) ?_
                  refine lv_goto (tgt := 127) hx hb d_R_unfit_123 (by decide) ?_
                  obtain rfl := Option.some.inj hres
                  exact W.zret (v := 1) (ty := .boolean) hx hb hr rfl (fun t ht hW => ⟨_, rfl, rfl, ht⟩) (fun _ hq => by cases hq) d_R_unfit_127
                · have hres := zi_n c_89 hres
                  refine lv_iload_n hx hb d_R_unfit_92 rfl (lv_at hl 3 rfl) ?_
                  refine lv_bipush (v := 6) hx hb d_R_unfit_93 (by decide) ?_
                  refine lv_icmp_ne (tgt := 107) hx hb d_R_unfit_95 (by decide) (fun c_95 => ?_) (fun c_95 => ?_)
                  · have hres := zi_n c_95 hres
                    refine lv_iload_n hx hb d_R_unfit_107 rfl (lv_at hl 3 rfl) ?_
                    refine lv_bipush (v := 8) hx hb d_R_unfit_108 (by decide) ?_
                    refine lv_icmp_ne (tgt := 126) hx hb d_R_unfit_110 (by decide) (fun c_110 => ?_) (fun c_110 => ?_)
                    · have hres := zi_n c_110 hres
                      refine lv_iconst (v := 0) hx hb d_R_unfit_126 (by decide) ?_
                      obtain rfl := Option.some.inj hres
                      exact W.zret (v := 0) (ty := .boolean) hx hb hr rfl (fun t ht hW => ⟨_, rfl, rfl, ht⟩) (fun _ hq => by cases hq) d_R_unfit_127
                    · have hres := zi_p c_110 hres
                      refine lv_aload_n hx hb d_R_unfit_113 rfl (lv_at hl 1 rfl) ?_
                      refine va_get (D := D) (ci := 4) (v := .ref (q 8)) (C := R_R) (T := T_R) (N := 23) hx hb hts in_R hown hK hP (0) rfl rfl 7 (by decide) (hts _ k_435) (fun _ h9 => h9) rfl d_R_unfit_114 ?_
                      refine lv_iload_n hx hb d_R_unfit_117 rfl (lv_at hl 2 rfl) ?_
                      by_cases ck_118 : zin a0 67
                      · have hres := zi_p ck_118 hres
                        refine va_zald hx hb hK hP 8 7 rfl rfl ck_118 d_R_unfit_118 ?_
                        refine lv_if_ne (tgt := 126) hx hb d_R_unfit_119 (by decide) (fun c_119 => ?_) (fun c_119 => ?_)
                        · have hres := zi_n c_119 hres
                          refine lv_iconst (v := 0) hx hb d_R_unfit_126 (by decide) ?_
                          obtain rfl := Option.some.inj hres
                          exact W.zret (v := 0) (ty := .boolean) hx hb hr rfl (fun t ht hW => ⟨_, rfl, rfl, ht⟩) (fun _ hq => by cases hq) d_R_unfit_127
                        · have hres := zi_p c_119 hres
                          refine lv_iconst (v := 1) hx hb d_R_unfit_122 (by decide) ?_
                          refine lv_goto (tgt := 127) hx hb d_R_unfit_123 (by decide) ?_
                          obtain rfl := Option.some.inj hres
                          exact W.zret (v := 1) (ty := .boolean) hx hb hr rfl (fun t ht hW => ⟨_, rfl, rfl, ht⟩) (fun _ hq => by cases hq) d_R_unfit_127
                      · exact absurd (zi_n ck_118 hres) (by simp)
                  · have hres := zi_p c_95 hres
                    refine lv_aload_n hx hb d_R_unfit_98 rfl (lv_at hl 1 rfl) ?_
                    refine va_get (D := D) (ci := 4) (v := .ref (q 6)) (C := R_R) (T := T_R) (N := 23) hx hb hts in_R hown hK hP (0) rfl rfl 5 (by decide) (hts _ k_433) (fun _ h9 => h9) rfl d_R_unfit_99 ?_
                    refine lv_iload_n hx hb d_R_unfit_102 rfl (lv_at hl 2 rfl) ?_
                    by_cases ck_103 : zin a0 67
                    · have hres := zi_p ck_103 hres
                      refine va_iald hx hb hK hP 6 5 rfl rfl ck_103 d_R_unfit_103 ?_
                      refine lv_if_eq (tgt := 122) hx hb d_R_unfit_104 (by decide) (fun c_104 => ?_) (fun c_104 => ?_)
                      · have hres := zi_p c_104 hres
                        refine lv_iconst (v := 1) hx hb d_R_unfit_122 (by decide) ?_
                        refine lv_goto (tgt := 127) hx hb d_R_unfit_123 (by decide) ?_
                        obtain rfl := Option.some.inj hres
                        exact W.zret (v := 1) (ty := .boolean) hx hb hr rfl (fun t ht hW => ⟨_, rfl, rfl, ht⟩) (fun _ hq => by cases hq) d_R_unfit_127
                      · have hres := zi_n c_104 hres
                        refine lv_iload_n hx hb d_R_unfit_107 rfl (lv_at hl 3 rfl) ?_
                        refine lv_bipush (v := 8) hx hb d_R_unfit_108 (by decide) ?_
                        refine lv_icmp_ne (tgt := 126) hx hb d_R_unfit_110 (by decide) (fun c_110 => ?_) (fun c_110 => ?_)
                        · have hres := zi_n c_110 hres
                          refine lv_iconst (v := 0) hx hb d_R_unfit_126 (by decide) ?_
                          obtain rfl := Option.some.inj hres
                          exact W.zret (v := 0) (ty := .boolean) hx hb hr rfl (fun t ht hW => ⟨_, rfl, rfl, ht⟩) (fun _ hq => by cases hq) d_R_unfit_127
                        · have hres := zi_p c_110 hres
                          refine lv_aload_n hx hb d_R_unfit_113 rfl (lv_at hl 1 rfl) ?_
                          refine va_get (D := D) (ci := 4) (v := .ref (q 8)) (C := R_R) (T := T_R) (N := 23) hx hb hts in_R hown hK hP (0) rfl rfl 7 (by decide) (hts _ k_435) (fun _ h9 => h9) rfl d_R_unfit_114 ?_
                          refine lv_iload_n hx hb d_R_unfit_117 rfl (lv_at hl 2 rfl) ?_
                          by_cases ck_118 : zin a0 67
                          · have hres := zi_p ck_118 hres
                            refine va_zald hx hb hK hP 8 7 rfl rfl ck_118 d_R_unfit_118 ?_
                            refine lv_if_ne (tgt := 126) hx hb d_R_unfit_119 (by decide) (fun c_119 => ?_) (fun c_119 => ?_)
                            · have hres := zi_n c_119 hres
                              refine lv_iconst (v := 0) hx hb d_R_unfit_126 (by decide) ?_
                              obtain rfl := Option.some.inj hres
                              exact W.zret (v := 0) (ty := .boolean) hx hb hr rfl (fun t ht hW => ⟨_, rfl, rfl, ht⟩) (fun _ hq => by cases hq) d_R_unfit_127
                            · have hres := zi_p c_119 hres
                              refine lv_iconst (v := 1) hx hb d_R_unfit_122 (by decide) ?_
                              refine lv_goto (tgt := 127) hx hb d_R_unfit_123 (by decide) ?_
                              obtain rfl := Option.some.inj hres
                              exact W.zret (v := 1) (ty := .boolean) hx hb hr rfl (fun t ht hW => ⟨_, rfl, rfl, ht⟩) (fun _ hq => by cases hq) d_R_unfit_127
                          · exact absurd (zi_n ck_118 hres) (by simp)
                    · exact absurd (zi_n ck_103 hres) (by simp)
              · exact absurd (zi_n ck_86 hres) (by simp)
        · have hres := zi_p c_63 hres
          refine lv_iload hx hb d_R_unfit_66 (lv_at hl 0 rfl) ?_
          refine lv_if_eq (tgt := 122) hx hb d_R_unfit_68 (by decide) (fun c_68 => ?_) (fun c_68 => ?_)
          · have hres := zi_p c_68 hres
            refine lv_iconst (v := 1) hx hb d_R_unfit_122 (by decide) ?_
            refine lv_goto (tgt := 127) hx hb d_R_unfit_123 (by decide) ?_
            obtain rfl := Option.some.inj hres
            exact W.zret (v := 1) (ty := .boolean) hx hb hr rfl (fun t ht hW => ⟨_, rfl, rfl, ht⟩) (fun _ hq => by cases hq) d_R_unfit_127
          · have hres := zi_n c_68 hres
            refine lv_iload_n hx hb d_R_unfit_71 rfl (lv_at hl 3 rfl) ?_
            refine lv_iconst (v := 5) hx hb d_R_unfit_72 (by decide) ?_
            refine lv_icmp_ne (tgt := 92) hx hb d_R_unfit_73 (by decide) (fun c_73 => ?_) (fun c_73 => ?_)
            · have hres := zi_n c_73 hres
              refine lv_iload_n hx hb d_R_unfit_92 rfl (lv_at hl 3 rfl) ?_
              refine lv_bipush (v := 6) hx hb d_R_unfit_93 (by decide) ?_
              refine lv_icmp_ne (tgt := 107) hx hb d_R_unfit_95 (by decide) (fun c_95 => ?_) (fun c_95 => ?_)
              · have hres := zi_n c_95 hres
                refine lv_iload_n hx hb d_R_unfit_107 rfl (lv_at hl 3 rfl) ?_
                refine lv_bipush (v := 8) hx hb d_R_unfit_108 (by decide) ?_
                refine lv_icmp_ne (tgt := 126) hx hb d_R_unfit_110 (by decide) (fun c_110 => ?_) (fun c_110 => ?_)
                · have hres := zi_n c_110 hres
                  refine lv_iconst (v := 0) hx hb d_R_unfit_126 (by decide) ?_
                  obtain rfl := Option.some.inj hres
                  exact W.zret (v := 0) (ty := .boolean) hx hb hr rfl (fun t ht hW => ⟨_, rfl, rfl, ht⟩) (fun _ hq => by cases hq) d_R_unfit_127
                · have hres := zi_p c_110 hres
                  refine lv_aload_n hx hb d_R_unfit_113 rfl (lv_at hl 1 rfl) ?_
                  refine va_get (D := D) (ci := 4) (v := .ref (q 8)) (C := R_R) (T := T_R) (N := 23) hx hb hts in_R hown hK hP (0) rfl rfl 7 (by decide) (hts _ k_435) (fun _ h9 => h9) rfl d_R_unfit_114 ?_
                  refine lv_iload_n hx hb d_R_unfit_117 rfl (lv_at hl 2 rfl) ?_
                  by_cases ck_118 : zin a0 67
                  · have hres := zi_p ck_118 hres
                    refine va_zald hx hb hK hP 8 7 rfl rfl ck_118 d_R_unfit_118 ?_
                    refine lv_if_ne (tgt := 126) hx hb d_R_unfit_119 (by decide) (fun c_119 => ?_) (fun c_119 => ?_)
                    · have hres := zi_n c_119 hres
                      refine lv_iconst (v := 0) hx hb d_R_unfit_126 (by decide) ?_
                      obtain rfl := Option.some.inj hres
                      exact W.zret (v := 0) (ty := .boolean) hx hb hr rfl (fun t ht hW => ⟨_, rfl, rfl, ht⟩) (fun _ hq => by cases hq) d_R_unfit_127
                    · have hres := zi_p c_119 hres
                      refine lv_iconst (v := 1) hx hb d_R_unfit_122 (by decide) ?_
                      refine lv_goto (tgt := 127) hx hb d_R_unfit_123 (by decide) ?_
                      obtain rfl := Option.some.inj hres
                      exact W.zret (v := 1) (ty := .boolean) hx hb hr rfl (fun t ht hW => ⟨_, rfl, rfl, ht⟩) (fun _ hq => by cases hq) d_R_unfit_127
                  · exact absurd (zi_n ck_118 hres) (by simp)
              · have hres := zi_p c_95 hres
                refine lv_aload_n hx hb d_R_unfit_98 rfl (lv_at hl 1 rfl) ?_
                refine va_get (D := D) (ci := 4) (v := .ref (q 6)) (C := R_R) (T := T_R) (N := 23) hx hb hts in_R hown hK hP (0) rfl rfl 5 (by decide) (hts _ k_433) (fun _ h9 => h9) rfl d_R_unfit_99 ?_
                refine lv_iload_n hx hb d_R_unfit_102 rfl (lv_at hl 2 rfl) ?_
                by_cases ck_103 : zin a0 67
                · have hres := zi_p ck_103 hres
                  refine va_iald hx hb hK hP 6 5 rfl rfl ck_103 d_R_unfit_103 ?_
                  refine lv_if_eq (tgt := 122) hx hb d_R_unfit_104 (by decide) (fun c_104 => ?_) (fun c_104 => ?_)
                  · have hres := zi_p c_104 hres
                    refine lv_iconst (v := 1) hx hb d_R_unfit_122 (by decide) ?_
                    refine lv_goto (tgt := 127) hx hb d_R_unfit_123 (by decide) ?_
                    obtain rfl := Option.some.inj hres
                    exact W.zret (v := 1) (ty := .boolean) hx hb hr rfl (fun t ht hW => ⟨_, rfl, rfl, ht⟩) (fun _ hq => by cases hq) d_R_unfit_127
                  · have hres := zi_n c_104 hres
                    refine lv_iload_n hx hb d_R_unfit_107 rfl (lv_at hl 3 rfl) ?_
                    refine lv_bipush (v := 8) hx hb d_R_unfit_108 (by decide) ?_
                    refine lv_icmp_ne (tgt := 126) hx hb d_R_unfit_110 (by decide) (fun c_110 => ?_) (fun c_110 => ?_)
                    · have hres := zi_n c_110 hres
                      refine lv_iconst (v := 0) hx hb d_R_unfit_126 (by decide) ?_
                      obtain rfl := Option.some.inj hres
                      exact W.zret (v := 0) (ty := .boolean) hx hb hr rfl (fun t ht hW => ⟨_, rfl, rfl, ht⟩) (fun _ hq => by cases hq) d_R_unfit_127
                    · have hres := zi_p c_110 hres
                      refine lv_aload_n hx hb d_R_unfit_113 rfl (lv_at hl 1 rfl) ?_
                      refine va_get (D := D) (ci := 4) (v := .ref (q 8)) (C := R_R) (T := T_R) (N := 23) hx hb hts in_R hown hK hP (0) rfl rfl 7 (by decide) (hts _ k_435) (fun _ h9 => h9) rfl d_R_unfit_114 ?_
                      refine lv_iload_n hx hb d_R_unfit_117 rfl (lv_at hl 2 rfl) ?_
                      by_cases ck_118 : zin a0 67
                      · have hres := zi_p ck_118 hres
                        refine va_zald hx hb hK hP 8 7 rfl rfl ck_118 d_R_unfit_118 ?_
                        refine lv_if_ne (tgt := 126) hx hb d_R_unfit_119 (by decide) (fun c_119 => ?_) (fun c_119 => ?_)
                        · have hres := zi_n c_119 hres
                          refine lv_iconst (v := 0) hx hb d_R_unfit_126 (by decide) ?_
                          obtain rfl := Option.some.inj hres
                          exact W.zret (v := 0) (ty := .boolean) hx hb hr rfl (fun t ht hW => ⟨_, rfl, rfl, ht⟩) (fun _ hq => by cases hq) d_R_unfit_127
                        · have hres := zi_p c_119 hres
                          refine lv_iconst (v := 1) hx hb d_R_unfit_122 (by decide) ?_
                          refine lv_goto (tgt := 127) hx hb d_R_unfit_123 (by decide) ?_
                          obtain rfl := Option.some.inj hres
                          exact W.zret (v := 1) (ty := .boolean) hx hb hr rfl (fun t ht hW => ⟨_, rfl, rfl, ht⟩) (fun _ hq => by cases hq) d_R_unfit_127
                      · exact absurd (zi_n ck_118 hres) (by simp)
                · exact absurd (zi_n ck_103 hres) (by simp)
            · have hres := zi_p c_73 hres
              refine lv_iload hx hb d_R_unfit_76 (lv_at hl 0 rfl) ?_
              refine lv_if_ne (tgt := 122) hx hb d_R_unfit_78 (by decide) (fun c_78 => ?_) (fun c_78 => ?_)
              · have hres := zi_n c_78 hres
                refine lv_iconst (v := 1) hx hb d_R_unfit_122 (by decide) ?_
                refine lv_goto (tgt := 127) hx hb d_R_unfit_123 (by decide) ?_
                obtain rfl := Option.some.inj hres
                exact W.zret (v := 1) (ty := .boolean) hx hb hr rfl (fun t ht hW => ⟨_, rfl, rfl, ht⟩) (fun _ hq => by cases hq) d_R_unfit_127
              · have hres := zi_p c_78 hres
                refine lv_aload_n hx hb d_R_unfit_81 rfl (lv_at hl 1 rfl) ?_
                refine va_get (D := D) (ci := 4) (v := .ref (q 6)) (C := R_R) (T := T_R) (N := 23) hx hb hts in_R hown hK hP (0) rfl rfl 5 (by decide) (hts _ k_433) (fun _ h9 => h9) rfl d_R_unfit_82 ?_
                refine lv_iload_n hx hb d_R_unfit_85 rfl (lv_at hl 2 rfl) ?_
                by_cases ck_86 : zin a0 67
                · have hres := zi_p ck_86 hres
                  refine va_iald hx hb hK hP 6 5 rfl rfl ck_86 d_R_unfit_86 ?_
                  refine lv_bipush (v := 8) hx hb d_R_unfit_87 (by decide) ?_
                  refine lv_icmp_eq (tgt := 122) hx hb d_R_unfit_89 (by decide) (fun c_89 => ?_) (fun c_89 => ?_)
                  · have hres := zi_p c_89 hres
                    refine lv_iconst (v := 1) hx hb d_R_unfit_122 (by decide) ?_
                    refine lv_goto (tgt := 127) hx hb d_R_unfit_123 (by decide) ?_
                    obtain rfl := Option.some.inj hres
                    exact W.zret (v := 1) (ty := .boolean) hx hb hr rfl (fun t ht hW => ⟨_, rfl, rfl, ht⟩) (fun _ hq => by cases hq) d_R_unfit_127
                  · have hres := zi_n c_89 hres
                    refine lv_iload_n hx hb d_R_unfit_92 rfl (lv_at hl 3 rfl) ?_
                    refine lv_bipush (v := 6) hx hb d_R_unfit_93 (by decide) ?_
                    refine lv_icmp_ne (tgt := 107) hx hb d_R_unfit_95 (by decide) (fun c_95 => ?_) (fun c_95 => ?_)
                    · have hres := zi_n c_95 hres
                      refine lv_iload_n hx hb d_R_unfit_107 rfl (lv_at hl 3 rfl) ?_
                      refine lv_bipush (v := 8) hx hb d_R_unfit_108 (by decide) ?_
                      refine lv_icmp_ne (tgt := 126) hx hb d_R_unfit_110 (by decide) (fun c_110 => ?_) (fun c_110 => ?_)
                      · have hres := zi_n c_110 hres
                        refine lv_iconst (v := 0) hx hb d_R_unfit_126 (by decide) ?_
                        obtain rfl := Option.some.inj hres
                        exact W.zret (v := 0) (ty := .boolean) hx hb hr rfl (fun t ht hW => ⟨_, rfl, rfl, ht⟩) (fun _ hq => by cases hq) d_R_unfit_127
                      · have hres := zi_p c_110 hres
                        refine lv_aload_n hx hb d_R_unfit_113 rfl (lv_at hl 1 rfl) ?_
                        refine va_get (D := D) (ci := 4) (v := .ref (q 8)) (C := R_R) (T := T_R) (N := 23) hx hb hts in_R hown hK hP (0) rfl rfl 7 (by decide) (hts _ k_435) (fun _ h9 => h9) rfl d_R_unfit_114 ?_
                        refine lv_iload_n hx hb d_R_unfit_117 rfl (lv_at hl 2 rfl) ?_
                        by_cases ck_118 : zin a0 67
                        · have hres := zi_p ck_118 hres
                          refine va_zald hx hb hK hP 8 7 rfl rfl ck_118 d_R_unfit_118 ?_
                          refine lv_if_ne (tgt := 126) hx hb d_R_unfit_119 (by decide) (fun c_119 => ?_) (fun c_119 => ?_)
                          · have hres := zi_n c_119 hres
                            refine lv_iconst (v := 0) hx hb d_R_unfit_126 (by decide) ?_
                            obtain rfl := Option.some.inj hres
                            exact W.zret (v := 0) (ty := .boolean) hx hb hr rfl (fun t ht hW => ⟨_, rfl, rfl, ht⟩) (fun _ hq => by cases hq) d_R_unfit_127
                          · have hres := zi_p c_119 hres
                            refine lv_iconst (v := 1) hx hb d_R_unfit_122 (by decide) ?_
                            refine lv_goto (tgt := 127) hx hb d_R_unfit_123 (by decide) ?_
                            obtain rfl := Option.some.inj hres
                            exact W.zret (v := 1) (ty := .boolean) hx hb hr rfl (fun t ht hW => ⟨_, rfl, rfl, ht⟩) (fun _ hq => by cases hq) d_R_unfit_127
                        · exact absurd (zi_n ck_118 hres) (by simp)
                    · have hres := zi_p c_95 hres
                      refine lv_aload_n hx hb d_R_unfit_98 rfl (lv_at hl 1 rfl) ?_
                      refine va_get (D := D) (ci := 4) (v := .ref (q 6)) (C := R_R) (T := T_R) (N := 23) hx hb hts in_R hown hK hP (0) rfl rfl 5 (by decide) (hts _ k_433) (fun _ h9 => h9) rfl d_R_unfit_99 ?_
                      refine lv_iload_n hx hb d_R_unfit_102 rfl (lv_at hl 2 rfl) ?_
                      by_cases ck_103 : zin a0 67
                      · have hres := zi_p ck_103 hres
                        refine va_iald hx hb hK hP 6 5 rfl rfl ck_103 d_R_unfit_103 ?_
                        refine lv_if_eq (tgt := 122) hx hb d_R_unfit_104 (by decide) (fun c_104 => ?_) (fun c_104 => ?_)
                        · have hres := zi_p c_104 hres
                          refine lv_iconst (v := 1) hx hb d_R_unfit_122 (by decide) ?_
                          refine lv_goto (tgt := 127) hx hb d_R_unfit_123 (by decide) ?_
                          obtain rfl := Option.some.inj hres
                          exact W.zret (v := 1) (ty := .boolean) hx hb hr rfl (fun t ht hW => ⟨_, rfl, rfl, ht⟩) (fun _ hq => by cases hq) d_R_unfit_127
                        · have hres := zi_n c_104 hres
                          refine lv_iload_n hx hb d_R_unfit_107 rfl (lv_at hl 3 rfl) ?_
                          refine lv_bipush (v := 8) hx hb d_R_unfit_108 (by decide) ?_
                          refine lv_icmp_ne (tgt := 126) hx hb d_R_unfit_110 (by decide) (fun c_110 => ?_) (fun c_110 => ?_)
                          · have hres := zi_n c_110 hres
                            refine lv_iconst (v := 0) hx hb d_R_unfit_126 (by decide) ?_
                            obtain rfl := Option.some.inj hres
                            exact W.zret (v := 0) (ty := .boolean) hx hb hr rfl (fun t ht hW => ⟨_, rfl, rfl, ht⟩) (fun _ hq => by cases hq) d_R_unfit_127
                          · have hres := zi_p c_110 hres
                            refine lv_aload_n hx hb d_R_unfit_113 rfl (lv_at hl 1 rfl) ?_
                            refine va_get (D := D) (ci := 4) (v := .ref (q 8)) (C := R_R) (T := T_R) (N := 23) hx hb hts in_R hown hK hP (0) rfl rfl 7 (by decide) (hts _ k_435) (fun _ h9 => h9) rfl d_R_unfit_114 ?_
                            refine lv_iload_n hx hb d_R_unfit_117 rfl (lv_at hl 2 rfl) ?_
                            by_cases ck_118 : zin a0 67
                            · have hres := zi_p ck_118 hres
                              refine va_zald hx hb hK hP 8 7 rfl rfl ck_118 d_R_unfit_118 ?_
                              refine lv_if_ne (tgt := 126) hx hb d_R_unfit_119 (by decide) (fun c_119 => ?_) (fun c_119 => ?_)
                              · have hres := zi_n c_119 hres
                                refine lv_iconst (v := 0) hx hb d_R_unfit_126 (by decide) ?_
                                obtain rfl := Option.some.inj hres
                                exact W.zret (v := 0) (ty := .boolean) hx hb hr rfl (fun t ht hW => ⟨_, rfl, rfl, ht⟩) (fun _ hq => by cases hq) d_R_unfit_127
                              · have hres := zi_p c_119 hres
                                refine lv_iconst (v := 1) hx hb d_R_unfit_122 (by decide) ?_
                                refine lv_goto (tgt := 127) hx hb d_R_unfit_123 (by decide) ?_
                                obtain rfl := Option.some.inj hres
                                exact W.zret (v := 1) (ty := .boolean) hx hb hr rfl (fun t ht hW => ⟨_, rfl, rfl, ht⟩) (fun _ hq => by cases hq) d_R_unfit_127
                            · exact absurd (zi_n ck_118 hres) (by simp)
                      · exact absurd (zi_n ck_103 hres) (by simp)
                · exact absurd (zi_n ck_86 hres) (by simp)
  refine lv_icmp_ge (tgt := 29) hx hb d_R_unfit_2 (by decide) (fun c_2 => ?_) (fun c_2 => ?_)
  · have hres := zi_p c_2 hres
    refine lv_iload_n hx hb d_R_unfit_29 rfl (lv_at hl 2 rfl) ?_
    refine lv_iconst (v := 5) hx hb d_R_unfit_30 (by decide) ?_
    refine lv_icmp_ne (tgt := 48) hx hb d_R_unfit_31 (by decide) (fun c_31 => ?_) (fun c_31 => ?_)
    · have hres := zi_n c_31 hres
      refine lv_iconst (v := 0) hx hb d_R_unfit_48 (by decide) ?_
      exact hj49 0 ls (lv_sub hl [0, 1, 2, 3] rfl) hres
    · have hres := zi_p c_31 hres
      refine lv_aload_n hx hb d_R_unfit_34 rfl (lv_at hl 0 rfl) ?_
      refine lv_iload_n hx hb d_R_unfit_35 rfl (lv_at hl 1 rfl) ?_
      refine lv_lload_n hx hb d_R_unfit_36 rfl (lv_at hl 3 rfl) ?_
      refine lv_l2i (v := a2.toInt32) hx hb d_R_unfit_37 rfl ?_
      obtain ⟨v38, hc38, hres⟩ := zo_b hres
      refine vp_callSi (va_Run.run (va_runV (As := [.int a0, .int a2.toInt32]) (rest := []) ⟨hx, hb, hml, hown, hts⟩ (c_R_placeOf l D (zRt cR) q cR ρ a0 a2.toInt32 v38 hc38) (cwV 2 hts (zg_V k_512 k_514 k_10 k_32 g_R_placeOf) rfl rfl rfl ⟨rfl, hd_R_placeOf⟩ ⟨Nat.le_of_ble_eq_true rfl, Nat.le_of_ble_eq_true rfl⟩) ⟨zro_b _, va_recv hK hP (q0 := 0) rfl rfl, zro_p hP hK hN _⟩ rfl rfl hl.1 rfl (lv_room (Nat.le_of_ble_eq_true rfl)) d_R_unfit_38 ⟨Nat.zero_le _, Nat.zero_le _⟩)) (fun r_38 er_38 => ?_)
      have er_38 := er_38.symm
      subst er_38
      refine lv_if_lt (tgt := 48) hx hb d_R_unfit_41 (by decide) (fun c_41 => ?_) (fun c_41 => ?_)
      · have hres := zi_p c_41 hres
        refine lv_iconst (v := 0) hx hb d_R_unfit_48 (by decide) ?_
        exact hj49 0 ls (lv_sub hl [0, 1, 2, 3] rfl) hres
      · have hres := zi_n c_41 hres
        refine lv_iconst (v := 1) hx hb d_R_unfit_44 (by decide) ?_
        refine lv_goto (tgt := 49) hx hb d_R_unfit_45 (by decide) ?_
        exact hj49 1 ls (lv_sub hl [0, 1, 2, 3] rfl) hres
  · have hres := zi_n c_2 hres
    refine lv_aload_n hx hb d_R_unfit_5 rfl (lv_at hl 0 rfl) ?_
    refine va_get (D := D) (ci := 4) (v := .ref (q 5)) (C := R_R) (T := T_R) (N := 23) hx hb hts in_R hown hK hP (0) rfl rfl 4 (by decide) (hts _ k_432) (fun _ h9 => h9) rfl d_R_unfit_6 ?_
    refine lv_iload_n hx hb d_R_unfit_9 rfl (lv_at hl 1 rfl) ?_
    by_cases ck_10 : zin a0 67
    · have hres := zi_p ck_10 hres
      refine va_lald hx hb hK hP 5 4 rfl rfl ck_10 d_R_unfit_10 ?_
      refine lv_lload_n hx hb d_R_unfit_11 rfl (lv_at hl 3 rfl) ?_
      refine lv_l2i (v := a2.toInt32) hx hb d_R_unfit_12 rfl ?_
      refine lv_lshr (v := (zr_l (ρ.1.1.2.1.2 a0.toNatClampNeg) a2.toInt32)) hx hb d_R_unfit_13 rfl ?_
      refine lv_lconst (v := 1) hx hb d_R_unfit_14 (by decide) ?_
      refine lv_land hx hb d_R_unfit_15 ?_
      refine lv_lconst (v := 1) hx hb d_R_unfit_16 (by decide) ?_
      refine W.lcmp hx hb d_R_unfit_17 ?_
      refine lv_if_ne (tgt := 25) hx hb d_R_unfit_18 (by decide) (fun c_18 => ?_) (fun c_18 => ?_)
      · have hres := zi_n c_18 hres
        refine lv_iconst (v := 0) hx hb d_R_unfit_25 (by decide) ?_
        refine lv_goto (tgt := 49) hx hb d_R_unfit_26 (by decide) ?_
        exact hj49 0 ls (lv_sub hl [0, 1, 2, 3] rfl) hres
      · have hres := zi_p c_18 hres
        refine lv_iconst (v := 1) hx hb d_R_unfit_21 (by decide) ?_
        refine lv_goto (tgt := 49) hx hb d_R_unfit_22 (by decide) ?_
        exact hj49 1 ls (lv_sub hl [0, 1, 2, 3] rfl) hres
    · exact absurd (zi_n ck_10 hres) (by simp)
def f_R_value (ρ : RSt) (a0 : Int32) (a1 : Int32) : Option (Int64) :=
  Option.bind (f_R_isCommit ρ a0) (fun v2 =>
    if v2 = 0 then
      some (-1)
    else
      if a1 = 0 then
        if zin a0 67 then
          some (ρ.1.1.1.1.1 a0.toNatClampNeg)
        else
          none
      else
        if a1 = 1 then
          if zin a0 67 then
            some ((ρ.1.1.1.1.2 a0.toNatClampNeg).toInt64)
          else
            none
        else
          if a1 = 2 then
            if zin a0 67 then
              some ((ρ.1.1.1.2 a0.toNatClampNeg).toInt64)
            else
              none
          else
            if a1 = 3 then
              if zin a0 67 then
                some ((ρ.1.1.2.1.1 a0.toNatClampNeg).toInt64)
              else
                none
            else
              if a1 = 4 then
                if zin a0 67 then
                  some (ρ.1.1.2.1.2 a0.toNatClampNeg)
                else
                  none
              else
                if a1 = 5 then
                  if zin a0 67 then
                    some ((ρ.1.1.2.2 a0.toNatClampNeg).toInt64)
                  else
                    none
                else
                  if a1 = 6 then
                    if zin a0 67 then
                      if (ρ.1.2.1.1.2 a0.toNatClampNeg) = 0 then
                        some 0
                      else
                        if zin a0 67 then
                          some (ρ.1.2.1.2 a0.toNatClampNeg)
                        else
                          none
                    else
                      none
                  else
                    if a1 = 7 then
                      if zin a0 67 then
                        if (ρ.1.2.1.1.2 a0.toNatClampNeg) = 0 then
                          some 0
                        else
                          some 1
                      else
                        none
                    else
                      if a1 = 8 then
                        if zin a0 67 then
                          some (ρ.1.2.2.1.1 a0.toNatClampNeg)
                        else
                          none
                      else
                        if a1 = 9 then
                          if zin a0 67 then
                            some ((ρ.1.2.2.1.2 a0.toNatClampNeg).toInt64)
                          else
                            none
                        else
                          some (-1))
set_option maxHeartbeats 4000000 in
set_option maxRecDepth 100000 in
theorem c_R_value (l : Launch) (D : va_G) (tys : List (ClassId × FieldType)) (q : Nat → Nat) (cR : Nat → ClassId) (ρ : RSt) (a0 : Int32) (a1 : Int32) (v : Int64) (hres : f_R_value ρ a0 a1 = some v) : Met l y_R_value w_R_value ({ frames := 1, cells := 0, slots := 0, locals := 21 } : Room) (va_Pc ([.ref (q 0), .int a0, .int a1]) (zro D (zRt cR) (zR q cR ρ))) (vp_Sl (fun r : Int64 => r = v)) 0 0 (fun _ => False) := by
  refine Met.ofW (cc := b_R_value) (maxL := 3) (ret := (some .long)) (by decide) rfl ?_
  intro p e s m args below meth c s₁ B hml hv
  obtain ⟨rfl, hP, hK, hN⟩ := hv
  have hx := B.exec
  have hb := B.bytes
  have hr := B.returns
  have hts : ∀ w ∈ zt, w.before ([.ref (q 0), .int a0, .int a1].toArray) s = true := fun w h => atoms_spec (ws := w_R_value) B.pre w (List.mem_cons_of_mem _ h)
  have hown : s.vm.findClass R_R = some m.cls := findClass_of_methodNamed B.named
  have hlocks := B.notSynchronized
  have hl := lv_entry ([.ref (q 0), .int a0, .int a1]) (n := 3) (Nat.le_of_ble_eq_true rfl)
  rw [lg_entry_eq]
  generalize (lg_sl ([.ref (q 0), .int a0, .int a1]) ++ List.replicate (3 - (lg_sl ([.ref (q 0), .int a0, .int a1])).length) Slot.unset).toArray = ls at hl ⊢
  have hl : lv_has ls 3 [(0, .ref (q 0)), (1, .int a0), (2, .int a1)] := hl
  unfold f_R_value at hres
  refine lv_aload_n hx hb d_R_value_0 rfl (lv_at hl 0 rfl) ?_
  refine lv_iload_n hx hb d_R_value_1 rfl (lv_at hl 1 rfl) ?_
  obtain ⟨v2, hc2, hres⟩ := zo_b hres
  refine vp_callSi (va_Run.run (va_runV (As := [.int a0]) (rest := []) ⟨hx, hb, hml, hown, hts⟩ (c_R_isCommit l D (zRt cR) q cR ρ a0 v2 hc2) (cwV 1 hts (zg_V k_551 k_553 k_16 k_32 g_R_isCommit) rfl rfl rfl ⟨rfl, hd_R_isCommit⟩ ⟨Nat.le_of_ble_eq_true rfl, Nat.le_of_ble_eq_true rfl⟩) ⟨zro_b _, va_recv hK hP (q0 := 0) rfl rfl, zro_p hP hK hN _⟩ rfl rfl hl.1 rfl (lv_room (Nat.le_of_ble_eq_true rfl)) d_R_value_2 ⟨Nat.zero_le _, Nat.zero_le _⟩)) (fun r_2 er_2 => ?_)
  have er_2 := er_2.symm
  subst er_2
  refine lv_if_ne (tgt := 12) hx hb d_R_value_5 (by decide) (fun c_5 => ?_) (fun c_5 => ?_)
  · have hres := zi_n c_5 hres
    refine lv_iload_n hx hb d_R_value_12 rfl (lv_at hl 2 rfl) ?_
    by_cases c_13_0 : a1 = 0
    · have hres := zi_p c_13_0 hres
      refine lv_tableIn (off := 55) (tgt := 68) hx hb d_R_value_13 (by rw [c_13_0]; decide) (by rw [c_13_0]; decide) (by rw [c_13_0]; decide) (by decide) ?_
      refine lv_aload_n hx hb d_R_value_68 rfl (lv_at hl 0 rfl) ?_
      refine va_get (D := D) (ci := 4) (v := .ref (q 1)) (C := R_R) (T := T_R) (N := 23) hx hb hts in_R hown hK hP (0) rfl rfl 0 (by decide) (hts _ k_428) (fun _ h9 => h9) rfl d_R_value_69 ?_
      refine lv_iload_n hx hb d_R_value_72 rfl (lv_at hl 1 rfl) ?_
      by_cases ck_73 : zin a0 67
      · have hres := zi_p ck_73 hres
        refine va_lald hx hb hK hP 1 0 rfl rfl ck_73 d_R_value_73 ?_
        obtain rfl := Option.some.inj hres
        exact W.lret (v := (ρ.1.1.1.1.1 a0.toNatClampNeg)) hx hb hr (fun t ht hW => ⟨_, rfl, rfl, ht⟩) (fun _ hq => by cases hq) d_R_value_74
      · exact absurd (zi_n ck_73 hres) (by simp)
    · have hres := zi_n c_13_0 hres
      by_cases c_13_1 : a1 = 1
      · have hres := zi_p c_13_1 hres
        refine lv_tableIn (off := 62) (tgt := 75) hx hb d_R_value_13 (by rw [c_13_1]; decide) (by rw [c_13_1]; decide) (by rw [c_13_1]; decide) (by decide) ?_
        refine lv_aload_n hx hb d_R_value_75 rfl (lv_at hl 0 rfl) ?_
        refine va_get (D := D) (ci := 4) (v := .ref (q 2)) (C := R_R) (T := T_R) (N := 23) hx hb hts in_R hown hK hP (0) rfl rfl 1 (by decide) (hts _ k_429) (fun _ h9 => h9) rfl d_R_value_76 ?_
        refine lv_iload_n hx hb d_R_value_79 rfl (lv_at hl 1 rfl) ?_
        by_cases ck_80 : zin a0 67
        · have hres := zi_p ck_80 hres
          refine va_iald hx hb hK hP 2 1 rfl rfl ck_80 d_R_value_80 ?_
          refine lv_i2l (v := (ρ.1.1.1.1.2 a0.toNatClampNeg).toInt64) hx hb d_R_value_81 rfl ?_
          obtain rfl := Option.some.inj hres
          exact W.lret (v := (ρ.1.1.1.1.2 a0.toNatClampNeg).toInt64) hx hb hr (fun t ht hW => ⟨_, rfl, rfl, ht⟩) (fun _ hq => by cases hq) d_R_value_82
        · exact absurd (zi_n ck_80 hres) (by simp)
      · have hres := zi_n c_13_1 hres
        by_cases c_13_2 : a1 = 2
        · have hres := zi_p c_13_2 hres
          refine lv_tableIn (off := 70) (tgt := 83) hx hb d_R_value_13 (by rw [c_13_2]; decide) (by rw [c_13_2]; decide) (by rw [c_13_2]; decide) (by decide) ?_
          refine lv_aload_n hx hb d_R_value_83 rfl (lv_at hl 0 rfl) ?_
          refine va_get (D := D) (ci := 4) (v := .ref (q 3)) (C := R_R) (T := T_R) (N := 23) hx hb hts in_R hown hK hP (0) rfl rfl 2 (by decide) (hts _ k_430) (fun _ h9 => h9) rfl d_R_value_84 ?_
          refine lv_iload_n hx hb d_R_value_87 rfl (lv_at hl 1 rfl) ?_
          by_cases ck_88 : zin a0 67
          · have hres := zi_p ck_88 hres
            refine va_iald hx hb hK hP 3 2 rfl rfl ck_88 d_R_value_88 ?_
            refine lv_i2l (v := (ρ.1.1.1.2 a0.toNatClampNeg).toInt64) hx hb d_R_value_89 rfl ?_
            obtain rfl := Option.some.inj hres
            exact W.lret (v := (ρ.1.1.1.2 a0.toNatClampNeg).toInt64) hx hb hr (fun t ht hW => ⟨_, rfl, rfl, ht⟩) (fun _ hq => by cases hq) d_R_value_90
          · exact absurd (zi_n ck_88 hres) (by simp)
        · have hres := zi_n c_13_2 hres
          by_cases c_13_3 : a1 = 3
          · have hres := zi_p c_13_3 hres
            refine lv_tableIn (off := 78) (tgt := 91) hx hb d_R_value_13 (by rw [c_13_3]; decide) (by rw [c_13_3]; decide) (by rw [c_13_3]; decide) (by decide) ?_
            refine lv_aload_n hx hb d_R_value_91 rfl (lv_at hl 0 rfl) ?_
            refine va_get (D := D) (ci := 4) (v := .ref (q 4)) (C := R_R) (T := T_R) (N := 23) hx hb hts in_R hown hK hP (0) rfl rfl 3 (by decide) (hts _ k_431) (fun _ h9 => h9) rfl d_R_value_92 ?_
            refine lv_iload_n hx hb d_R_value_95 rfl (lv_at hl 1 rfl) ?_
            by_cases ck_96 : zin a0 67
            · have hres := zi_p ck_96 hres
              refine va_iald hx hb hK hP 4 3 rfl rfl ck_96 d_R_value_96 ?_
              refine lv_i2l (v := (ρ.1.1.2.1.1 a0.toNatClampNeg).toInt64) hx hb d_R_value_97 rfl ?_
              obtain rfl := Option.some.inj hres
              exact W.lret (v := (ρ.1.1.2.1.1 a0.toNatClampNeg).toInt64) hx hb hr (fun t ht hW => ⟨_, rfl, rfl, ht⟩) (fun _ hq => by cases hq) d_R_value_98
            · exact absurd (zi_n ck_96 hres) (by simp)
          · have hres := zi_n c_13_3 hres
            by_cases c_13_4 : a1 = 4
            · have hres := zi_p c_13_4 hres
              refine lv_tableIn (off := 86) (tgt := 99) hx hb d_R_value_13 (by rw [c_13_4]; decide) (by rw [c_13_4]; decide) (by rw [c_13_4]; decide) (by decide) ?_
              refine lv_aload_n hx hb d_R_value_99 rfl (lv_at hl 0 rfl) ?_
              refine va_get (D := D) (ci := 4) (v := .ref (q 5)) (C := R_R) (T := T_R) (N := 23) hx hb hts in_R hown hK hP (0) rfl rfl 4 (by decide) (hts _ k_432) (fun _ h9 => h9) rfl d_R_value_100 ?_
              refine lv_iload_n hx hb d_R_value_103 rfl (lv_at hl 1 rfl) ?_
              by_cases ck_104 : zin a0 67
              · have hres := zi_p ck_104 hres
                refine va_lald hx hb hK hP 5 4 rfl rfl ck_104 d_R_value_104 ?_
                obtain rfl := Option.some.inj hres
                exact W.lret (v := (ρ.1.1.2.1.2 a0.toNatClampNeg)) hx hb hr (fun t ht hW => ⟨_, rfl, rfl, ht⟩) (fun _ hq => by cases hq) d_R_value_105
              · exact absurd (zi_n ck_104 hres) (by simp)
            · have hres := zi_n c_13_4 hres
              by_cases c_13_5 : a1 = 5
              · have hres := zi_p c_13_5 hres
                refine lv_tableIn (off := 93) (tgt := 106) hx hb d_R_value_13 (by rw [c_13_5]; decide) (by rw [c_13_5]; decide) (by rw [c_13_5]; decide) (by decide) ?_
                refine lv_aload_n hx hb d_R_value_106 rfl (lv_at hl 0 rfl) ?_
                refine va_get (D := D) (ci := 4) (v := .ref (q 6)) (C := R_R) (T := T_R) (N := 23) hx hb hts in_R hown hK hP (0) rfl rfl 5 (by decide) (hts _ k_433) (fun _ h9 => h9) rfl d_R_value_107 ?_
                refine lv_iload_n hx hb d_R_value_110 rfl (lv_at hl 1 rfl) ?_
                by_cases ck_111 : zin a0 67
                · have hres := zi_p ck_111 hres
                  refine va_iald hx hb hK hP 6 5 rfl rfl ck_111 d_R_value_111 ?_
                  refine lv_i2l (v := (ρ.1.1.2.2 a0.toNatClampNeg).toInt64) hx hb d_R_value_112 rfl ?_
                  obtain rfl := Option.some.inj hres
                  exact W.lret (v := (ρ.1.1.2.2 a0.toNatClampNeg).toInt64) hx hb hr (fun t ht hW => ⟨_, rfl, rfl, ht⟩) (fun _ hq => by cases hq) d_R_value_113
                · exact absurd (zi_n ck_111 hres) (by simp)
              · have hres := zi_n c_13_5 hres
                by_cases c_13_6 : a1 = 6
                · have hres := zi_p c_13_6 hres
                  refine lv_tableIn (off := 101) (tgt := 114) hx hb d_R_value_13 (by rw [c_13_6]; decide) (by rw [c_13_6]; decide) (by rw [c_13_6]; decide) (by decide) ?_
                  refine lv_aload_n hx hb d_R_value_114 rfl (lv_at hl 0 rfl) ?_
                  refine va_get (D := D) (ci := 4) (v := .ref (q 8)) (C := R_R) (T := T_R) (N := 23) hx hb hts in_R hown hK hP (0) rfl rfl 7 (by decide) (hts _ k_435) (fun _ h9 => h9) rfl d_R_value_115 ?_
                  refine lv_iload_n hx hb d_R_value_118 rfl (lv_at hl 1 rfl) ?_
                  by_cases ck_119 : zin a0 67
                  · have hres := zi_p ck_119 hres
                    refine va_zald hx hb hK hP 8 7 rfl rfl ck_119 d_R_value_119 ?_
                    refine lv_if_eq (tgt := 132) hx hb d_R_value_120 (by decide) (fun c_120 => ?_) (fun c_120 => ?_)
                    · have hres := zi_p c_120 hres
                      refine lv_lconst (v := 0) hx hb d_R_value_132 (by decide) ?_
                      obtain rfl := Option.some.inj hres
                      exact W.lret (v := 0) hx hb hr (fun t ht hW => ⟨_, rfl, rfl, ht⟩) (fun _ hq => by cases hq) d_R_value_133
                    · have hres := zi_n c_120 hres
                      refine lv_aload_n hx hb d_R_value_123 rfl (lv_at hl 0 rfl) ?_
                      refine va_get (D := D) (ci := 4) (v := .ref (q 9)) (C := R_R) (T := T_R) (N := 23) hx hb hts in_R hown hK hP (0) rfl rfl 8 (by decide) (hts _ k_436) (fun _ h9 => h9) rfl d_R_value_124 ?_
                      refine lv_iload_n hx hb d_R_value_127 rfl (lv_at hl 1 rfl) ?_
                      by_cases ck_128 : zin a0 67
                      · have hres := zi_p ck_128 hres
                        refine va_lald hx hb hK hP 9 8 rfl rfl ck_128 d_R_value_128 ?_
                        refine lv_goto (tgt := 133) hx hb d_R_value_129 (by decide) ?_
                        obtain rfl := Option.some.inj hres
                        exact W.lret (v := (ρ.1.2.1.2 a0.toNatClampNeg)) hx hb hr (fun t ht hW => ⟨_, rfl, rfl, ht⟩) (fun _ hq => by cases hq) d_R_value_133
                      · exact absurd (zi_n ck_128 hres) (by simp)
                  · exact absurd (zi_n ck_119 hres) (by simp)
                · have hres := zi_n c_13_6 hres
                  by_cases c_13_7 : a1 = 7
                  · have hres := zi_p c_13_7 hres
                    refine lv_tableIn (off := 121) (tgt := 134) hx hb d_R_value_13 (by rw [c_13_7]; decide) (by rw [c_13_7]; decide) (by rw [c_13_7]; decide) (by decide) ?_
                    refine lv_aload_n hx hb d_R_value_134 rfl (lv_at hl 0 rfl) ?_
                    refine va_get (D := D) (ci := 4) (v := .ref (q 8)) (C := R_R) (T := T_R) (N := 23) hx hb hts in_R hown hK hP (0) rfl rfl 7 (by decide) (hts _ k_435) (fun _ h9 => h9) rfl d_R_value_135 ?_
                    refine lv_iload_n hx hb d_R_value_138 rfl (lv_at hl 1 rfl) ?_
                    by_cases ck_139 : zin a0 67
                    · have hres := zi_p ck_139 hres
                      refine va_zald hx hb hK hP 8 7 rfl rfl ck_139 d_R_value_139 ?_
                      refine lv_if_eq (tgt := 147) hx hb d_R_value_140 (by decide) (fun c_140 => ?_) (fun c_140 => ?_)
                      · have hres := zi_p c_140 hres
                        refine lv_lconst (v := 0) hx hb d_R_value_147 (by decide) ?_
                        obtain rfl := Option.some.inj hres
                        exact W.lret (v := 0) hx hb hr (fun t ht hW => ⟨_, rfl, rfl, ht⟩) (fun _ hq => by cases hq) d_R_value_148
                      · have hres := zi_n c_140 hres
                        refine lv_lconst (v := 1) hx hb d_R_value_143 (by decide) ?_
                        refine lv_goto (tgt := 148) hx hb d_R_value_144 (by decide) ?_
                        obtain rfl := Option.some.inj hres
                        exact W.lret (v := 1) hx hb hr (fun t ht hW => ⟨_, rfl, rfl, ht⟩) (fun _ hq => by cases hq) d_R_value_148
                    · exact absurd (zi_n ck_139 hres) (by simp)
                  · have hres := zi_n c_13_7 hres
                    by_cases c_13_8 : a1 = 8
                    · have hres := zi_p c_13_8 hres
                      refine lv_tableIn (off := 136) (tgt := 149) hx hb d_R_value_13 (by rw [c_13_8]; decide) (by rw [c_13_8]; decide) (by rw [c_13_8]; decide) (by decide) ?_
                      refine lv_aload_n hx hb d_R_value_149 rfl (lv_at hl 0 rfl) ?_
                      refine va_get (D := D) (ci := 4) (v := .ref (q 10)) (C := R_R) (T := T_R) (N := 23) hx hb hts in_R hown hK hP (0) rfl rfl 9 (by decide) (hts _ k_437) (fun _ h9 => h9) rfl d_R_value_150 ?_
                      refine lv_iload_n hx hb d_R_value_153 rfl (lv_at hl 1 rfl) ?_
                      by_cases ck_154 : zin a0 67
                      · have hres := zi_p ck_154 hres
                        refine va_lald hx hb hK hP 10 9 rfl rfl ck_154 d_R_value_154 ?_
                        obtain rfl := Option.some.inj hres
                        exact W.lret (v := (ρ.1.2.2.1.1 a0.toNatClampNeg)) hx hb hr (fun t ht hW => ⟨_, rfl, rfl, ht⟩) (fun _ hq => by cases hq) d_R_value_155
                      · exact absurd (zi_n ck_154 hres) (by simp)
                    · have hres := zi_n c_13_8 hres
                      by_cases c_13_9 : a1 = 9
                      · have hres := zi_p c_13_9 hres
                        refine lv_tableIn (off := 143) (tgt := 156) hx hb d_R_value_13 (by rw [c_13_9]; decide) (by rw [c_13_9]; decide) (by rw [c_13_9]; decide) (by decide) ?_
                        refine lv_aload_n hx hb d_R_value_156 rfl (lv_at hl 0 rfl) ?_
                        refine va_get (D := D) (ci := 4) (v := .ref (q 11)) (C := R_R) (T := T_R) (N := 23) hx hb hts in_R hown hK hP (0) rfl rfl 10 (by decide) (hts _ k_438) (fun _ h9 => h9) rfl d_R_value_157 ?_
                        refine lv_iload_n hx hb d_R_value_160 rfl (lv_at hl 1 rfl) ?_
                        by_cases ck_161 : zin a0 67
                        · have hres := zi_p ck_161 hres
                          refine va_iald hx hb hK hP 11 10 rfl rfl ck_161 d_R_value_161 ?_
                          refine lv_i2l (v := (ρ.1.2.2.1.2 a0.toNatClampNeg).toInt64) hx hb d_R_value_162 rfl ?_
                          obtain rfl := Option.some.inj hres
                          exact W.lret (v := (ρ.1.2.2.1.2 a0.toNatClampNeg).toInt64) hx hb hr (fun t ht hW => ⟨_, rfl, rfl, ht⟩) (fun _ hq => by cases hq) d_R_value_163
                        · exact absurd (zi_n ck_161 hres) (by simp)
                      · have hres := zi_n c_13_9 hres
                        have e_13_0 := lv_neT c_13_0 (a := 0) (by decide)
                        have e_13_1 := lv_neT c_13_1 (a := 1) (by decide)
                        have e_13_2 := lv_neT c_13_2 (a := 2) (by decide)
                        have e_13_3 := lv_neT c_13_3 (a := 3) (by decide)
                        have e_13_4 := lv_neT c_13_4 (a := 4) (by decide)
                        have e_13_5 := lv_neT c_13_5 (a := 5) (by decide)
                        have e_13_6 := lv_neT c_13_6 (a := 6) (by decide)
                        have e_13_7 := lv_neT c_13_7 (a := 7) (by decide)
                        have e_13_8 := lv_neT c_13_8 (a := 8) (by decide)
                        have e_13_9 := lv_neT c_13_9 (a := 9) (by decide)
                        refine lv_tableOut (tgt := 164) hx hb d_R_value_13 (by omega) (by decide) ?_
                        refine lv_ldc2 (v := (-1)) hx hb hown (hts _ k_585) d_R_value_164 ?_
                        obtain rfl := Option.some.inj hres
                        exact W.lret (v := (-1)) hx hb hr (fun t ht hW => ⟨_, rfl, rfl, ht⟩) (fun _ hq => by cases hq) d_R_value_167
  · have hres := zi_p c_5 hres
    refine lv_ldc2 (v := (-1)) hx hb hown (hts _ k_585) d_R_value_8 ?_
    obtain rfl := Option.some.inj hres
    exact W.lret (v := (-1)) hx hb hr (fun t ht hW => ⟨_, rfl, rfl, ht⟩) (fun _ hq => by cases hq) d_R_value_11

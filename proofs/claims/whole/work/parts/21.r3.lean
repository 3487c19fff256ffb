abbrev qd_R_watch (D : va_G) (tys : List (ClassId × FieldType)) (q : Nat → Nat) (cR : Nat → ClassId) (ρ : RSt) (a0 : Int32) (a1 : Int32) (v : Int32 × RSt) (A : Nat → Prop) : Array Value → State → Outcome → State → Prop := va_Qi (fun (r : Int32) (_ : Unit) => r = v.1) (fun _ t => zwd D (zRt cR) (A) (zR q cR v.2) t) (A)

def f_R_watch (ρ : RSt) (a0 : Int32) (a1 : Int32) : Option (Int32 × RSt) :=
  Option.bind (f_R_isBranch a0) (fun v1 =>
    if v1 = 0 then
      some (0, ρ)
    else
      if zin a0 4 then
        some (1, (((((ρ.1.1.1.1.1, ρ.1.1.1.1.2), ρ.1.1.1.2), ((ρ.1.1.2.1.1, ρ.1.1.2.1.2), ρ.1.1.2.2)), (((ρ.1.2.1.1.1, ρ.1.2.1.1.2), ρ.1.2.1.2), ((ρ.1.2.2.1.1, ρ.1.2.2.1.2), ρ.1.2.2.2))), ((((ρ.2.1.1.1.1, ρ.2.1.1.1.2), ρ.2.1.1.2), ((ρ.2.1.2.1.1, ρ.2.1.2.1.2), (upd ρ.2.1.2.2 a0.toNatClampNeg (vp_nar .boolean a1)))), (((ρ.2.2.1.1.1, ρ.2.2.1.1.2), ρ.2.2.1.2), (ρ.2.2.2.1, ρ.2.2.2.2)))))
      else
        none)
set_option maxHeartbeats 4000000 in
set_option maxRecDepth 100000 in
theorem c_R_watch (l : Launch) (D : va_G) (tys : List (ClassId × FieldType)) (sz : Nat) (q : Nat → Nat) (cR : Nat → ClassId) (ρ : RSt) (a0 : Int32) (a1 : Int32) (v : Int32 × RSt) (hres : f_R_watch ρ a0 a1 = some v) : Met l y_R_watch w_R_watch ({ frames := 1, cells := 0, slots := 0, locals := 20 } : Room) (va_Pc ([.ref (q 0), .int a0, .int a1]) (zrw D (zRt cR) sz (zR q cR ρ))) (qd_R_watch D tys q cR ρ a0 a1 v (va_A (zR q cR ρ) sz)) 0 0 (va_A (zR q cR ρ) sz) := by
  refine Met.ofW (cc := b_R_watch) (maxL := 3) (ret := (some .boolean)) (by decide) rfl ?_
  intro p e s m args below meth c s₁ B hml hv
  obtain ⟨rfl, hsz, hP, hK, hD0, hN⟩ := hv
  have hx := B.exec
  have hb := B.bytes
  have hr := B.returns
  have hts : ∀ w ∈ zt, w.before ([.ref (q 0), .int a0, .int a1].toArray) s = true := fun w h => atoms_spec (ws := w_R_watch) B.pre w (List.mem_cons_of_mem _ h)
  have hown : s.vm.findClass R_R = some m.cls := findClass_of_methodNamed B.named
  have hlocks := B.notSynchronized
  subst hsz
  have hD := hD0.self (sz := s.heap.size)
  generalize hAe : va_A (zR q cR ρ) s.heap.size = A at hD ⊢
  have hA : ∀ q : Nat, s.heap.size ≤ q → A q := fun q h => by rw [← hAe]; exact Or.inr h
  have hS : va_S A s.heap s.heap [] := va_S.rf
  have hP : va_P D vwCl (zR q cR ρ) s.heap := hP
  have hD : va_D A (zR q cR ρ) := hD
  have hl := lv_entry ([.ref (q 0), .int a0, .int a1]) (n := 3) (Nat.le_of_ble_eq_true rfl)
  rw [lg_entry_eq]
  generalize (lg_sl ([.ref (q 0), .int a0, .int a1]) ++ List.replicate (3 - (lg_sl ([.ref (q 0), .int a0, .int a1])).length) Slot.unset).toArray = ls at hl ⊢
  have hl : lv_has ls 3 [(0, .ref (q 0)), (1, .int a0), (2, .int a1)] := hl
  unfold f_R_watch at hres
  refine lv_iload_n hx hb d_R_watch_0 rfl (lv_at hl 1 rfl) ?_
  obtain ⟨v1, hc1, hres⟩ := zo_b hres
  refine vp_callSi (va_Run.run (va_runS (As := [.int a0]) (rest := []) ⟨hx, hb, hml, hown, hts⟩ (c_R_isBranch l D (zRt cR) a0 v1 hc1) (va_cwS 1 hts (zg_S k_505 k_506 k_32 g_R_isBranch) rfl rfl rfl hd_R_isBranch ⟨Nat.le_of_ble_eq_true rfl, Nat.le_of_ble_eq_true rfl⟩) ⟨zro_b _, zro_p va_Pnil hK hN _⟩ rfl rfl hl.1 rfl (lv_room (Nat.le_of_ble_eq_true rfl)) d_R_watch_1 ⟨Nat.zero_le _, Nat.zero_le _⟩)) (fun r_1 er_1 => ?_)
  have er_1 := er_1.symm
  subst er_1
  refine lv_if_ne (tgt := 9) hx hb d_R_watch_4 (by decide) (fun c_4 => ?_) (fun c_4 => ?_)
  · have hres := zi_n c_4 hres
    refine lv_aload_n hx hb d_R_watch_9 rfl (lv_at hl 0 rfl) ?_
    refine va_get (D := D) (ci := 4) (v := .ref (q 17)) (C := R_R) (T := T_R) (N := 23) hx hb hts in_R hown hK hP (0) rfl rfl 17 (by decide) (hts _ k_445) (fun _ h9 => h9) rfl d_R_watch_10 ?_
    refine lv_iload_n hx hb d_R_watch_13 rfl (lv_at hl 1 rfl) ?_
    refine lv_iload_n hx hb d_R_watch_14 rfl (lv_at hl 2 rfl) ?_
    by_cases ck_15 : zin a0 4
    · have hres := zi_p ck_15 hres
      refine va_zast hx hb hK hP hD hS 17 16 rfl rfl ck_15 d_R_watch_15 (fun H locs hP hD hS => ?_)
      have hP : va_P D vwCl ([(q 0, .inr (4, [.ref (q 1), .ref (q 2), .ref (q 3), .ref (q 4), .ref (q 5), .ref (q 6), .ref (q 7), .ref (q 8), .ref (q 9), .ref (q 10), .ref (q 11), .int ρ.1.2.2.2, .ref (q 12), .ref (q 13), .ref (q 14), .ref (q 15), .ref (q 16), .ref (q 17), .int ρ.2.2.1.1.1, .ref (q 18), .ref (q 19), .ref (q 20), .ref (q 21)])), (q 1, .inl (cR 1, 67, .inr (.inl ρ.1.1.1.1.1))), (q 2, .inl (cR 2, 67, .inl ρ.1.1.1.1.2)), (q 3, .inl (cR 3, 67, .inl ρ.1.1.1.2)), (q 4, .inl (cR 4, 67, .inl ρ.1.1.2.1.1)), (q 5, .inl (cR 5, 67, .inr (.inl ρ.1.1.2.1.2))), (q 6, .inl (cR 6, 67, .inl ρ.1.1.2.2)), (q 7, .inl (cR 7, 536, .inl ρ.1.2.1.1.1)), (q 8, .inl (cR 8, 67, .inl ρ.1.2.1.1.2)), (q 9, .inl (cR 9, 67, .inr (.inl ρ.1.2.1.2))), (q 10, .inl (cR 10, 67, .inr (.inl ρ.1.2.2.1.1))), (q 11, .inl (cR 11, 67, .inl ρ.1.2.2.1.2)), (q 12, .inl (cR 12, 60, .inl ρ.2.1.1.1.1)), (q 13, .inl (cR 13, 60, .inl ρ.2.1.1.1.2)), (q 14, .inl (cR 14, 60, .inr (.inl ρ.2.1.1.2))), (q 15, .inl (cR 15, 60, .inr (.inl ρ.2.1.2.1.1))), (q 16, .inl (cR 16, 4, .inl ρ.2.1.2.1.2)), (q 17, .inl (cR 17, 4, .inl (upd ρ.2.1.2.2 a0.toNatClampNeg (vp_nar .boolean a1)))), (q 18, .inl (cR 18, 100, .inl ρ.2.2.1.1.2)), (q 19, .inl (cR 19, 5, .inl ρ.2.2.1.2)), (q 20, .inl (cR 20, 5, .inl ρ.2.2.2.1)), (q 21, .inl (cR 21, 5, .inl ρ.2.2.2.2))]) H := hP
      have hD : va_D A ([(q 0, .inr (4, [.ref (q 1), .ref (q 2), .ref (q 3), .ref (q 4), .ref (q 5), .ref (q 6), .ref (q 7), .ref (q 8), .ref (q 9), .ref (q 10), .ref (q 11), .int ρ.1.2.2.2, .ref (q 12), .ref (q 13), .ref (q 14), .ref (q 15), .ref (q 16), .ref (q 17), .int ρ.2.2.1.1.1, .ref (q 18), .ref (q 19), .ref (q 20), .ref (q 21)])), (q 1, .inl (cR 1, 67, .inr (.inl ρ.1.1.1.1.1))), (q 2, .inl (cR 2, 67, .inl ρ.1.1.1.1.2)), (q 3, .inl (cR 3, 67, .inl ρ.1.1.1.2)), (q 4, .inl (cR 4, 67, .inl ρ.1.1.2.1.1)), (q 5, .inl (cR 5, 67, .inr (.inl ρ.1.1.2.1.2))), (q 6, .inl (cR 6, 67, .inl ρ.1.1.2.2)), (q 7, .inl (cR 7, 536, .inl ρ.1.2.1.1.1)), (q 8, .inl (cR 8, 67, .inl ρ.1.2.1.1.2)), (q 9, .inl (cR 9, 67, .inr (.inl ρ.1.2.1.2))), (q 10, .inl (cR 10, 67, .inr (.inl ρ.1.2.2.1.1))), (q 11, .inl (cR 11, 67, .inl ρ.1.2.2.1.2)), (q 12, .inl (cR 12, 60, .inl ρ.2.1.1.1.1)), (q 13, .inl (cR 13, 60, .inl ρ.2.1.1.1.2)), (q 14, .inl (cR 14, 60, .inr (.inl ρ.2.1.1.2))), (q 15, .inl (cR 15, 60, .inr (.inl ρ.2.1.2.1.1))), (q 16, .inl (cR 16, 4, .inl ρ.2.1.2.1.2)), (q 17, .inl (cR 17, 4, .inl (upd ρ.2.1.2.2 a0.toNatClampNeg (vp_nar .boolean a1)))), (q 18, .inl (cR 18, 100, .inl ρ.2.2.1.1.2)), (q 19, .inl (cR 19, 5, .inl ρ.2.2.1.2)), (q 20, .inl (cR 20, 5, .inl ρ.2.2.2.1)), (q 21, .inl (cR 21, 5, .inl ρ.2.2.2.2))]) := hD
      refine lv_iconst (v := 1) hx hb d_R_watch_16 (by decide) ?_
      obtain rfl := Option.some.inj hres
      exact W.zret (v := 1) (ty := .boolean) hx hb hr rfl (fun t ht hW => ⟨⟨_, (), rfl, rfl, by rw [ht]; exact hP, va_K.moved hW.alike hK, hD⟩, hS.F ht⟩) hS.2.2 d_R_watch_17
    · exact absurd (zi_n ck_15 hres) (by simp)
  · have hres := zi_p c_4 hres
    refine lv_iconst (v := 0) hx hb d_R_watch_7 (by decide) ?_
    obtain rfl := Option.some.inj hres
    exact W.zret (v := 0) (ty := .boolean) hx hb hr rfl (fun t ht hW => ⟨⟨_, (), rfl, rfl, by rw [ht]; exact hP, va_K.moved hW.alike hK, hD⟩, hS.F ht⟩) hS.2.2 d_R_watch_8
def L_R_ancestors_14 (ρ : RSt) (a0 : Int32) : Nat → Int32 → Int32 → Option (Int32 × Int32)
  | 0, _, _ => none
  | n + 1, x14_3, x14_2 =>
    if 60 ≤ x14_3 then
      some (x14_3, x14_2)
    else
      if zin a0 60 then
        if (lg_cmp ((zr_l (ρ.2.1.1.2 a0.toNatClampNeg) x14_3) &&& 1) 1) = 0 then
          L_R_ancestors_14 ρ a0 n (x14_3 + 1) (x14_2 + 1)
        else
          L_R_ancestors_14 ρ a0 n (x14_3 + 1) x14_2
      else
        none
def f_R_ancestors (ρ : RSt) (a0 : Int32) : Option (Int32) :=
  Option.bind (f_R_isCommit ρ a0) (fun v2 =>
    if v2 = 0 then
      some (-1)
    else
      Option.bind (L_R_ancestors_14 ρ a0 zfuel 0 0) (fun w14 =>
        some w14.2))
set_option maxHeartbeats 4000000 in
set_option maxRecDepth 100000 in
theorem c_R_ancestors (l : Launch) (D : va_G) (tys : List (ClassId × FieldType)) (q : Nat → Nat) (cR : Nat → ClassId) (ρ : RSt) (a0 : Int32) (v : Int32) (hres : f_R_ancestors ρ a0 = some v) : Met l y_R_ancestors w_R_ancestors ({ frames := 1, cells := 0, slots := 0, locals := 21 } : Room) (va_Pc ([.ref (q 0), .int a0]) (zro D (zRt cR) (zR q cR ρ))) (vp_Si (fun r : Int32 => r = v)) 0 0 (fun _ => False) := by
  refine Met.ofW (cc := b_R_ancestors) (maxL := 4) (ret := (some .int)) (by decide) rfl ?_
  intro p e s m args below meth c s₁ B hml hv
  obtain ⟨rfl, hP, hK, hN⟩ := hv
  have hx := B.exec
  have hb := B.bytes
  have hr := B.returns
  have hts : ∀ w ∈ zt, w.before ([.ref (q 0), .int a0].toArray) s = true := fun w h => atoms_spec (ws := w_R_ancestors) B.pre w (List.mem_cons_of_mem _ h)
  have hown : s.vm.findClass R_R = some m.cls := findClass_of_methodNamed B.named
  have hlocks := B.notSynchronized
  have hl := lv_entry ([.ref (q 0), .int a0]) (n := 4) (Nat.le_of_ble_eq_true rfl)
  rw [lg_entry_eq]
  generalize (lg_sl ([.ref (q 0), .int a0]) ++ List.replicate (4 - (lg_sl ([.ref (q 0), .int a0])).length) Slot.unset).toArray = ls at hl ⊢
  have hl : lv_has ls 4 [(0, .ref (q 0)), (1, .int a0)] := hl
  unfold f_R_ancestors at hres
  refine lv_aload_n hx hb d_R_ancestors_0 rfl (lv_at hl 0 rfl) ?_
  refine lv_iload_n hx hb d_R_ancestors_1 rfl (lv_at hl 1 rfl) ?_
  obtain ⟨v2, hc2, hres⟩ := zo_b hres
  refine vp_callSi (va_Run.run (va_runV (As := [.int a0]) (rest := []) ⟨hx, hb, hml, hown, hts⟩ (c_R_isCommit l D (zRt cR) q cR ρ a0 v2 hc2) (cwV 1 hts (zg_V k_551 k_553 k_16 k_32 g_R_isCommit) rfl rfl rfl ⟨rfl, hd_R_isCommit⟩ ⟨Nat.le_of_ble_eq_true rfl, Nat.le_of_ble_eq_true rfl⟩) ⟨zro_b _, va_recv hK hP (q0 := 0) rfl rfl, zro_p hP hK hN _⟩ rfl rfl hl.1 rfl (lv_room (Nat.le_of_ble_eq_true rfl)) d_R_ancestors_2 ⟨Nat.zero_le _, Nat.zero_le _⟩)) (fun r_2 er_2 => ?_)
  have er_2 := er_2.symm
  subst er_2
  refine lv_if_ne (tgt := 10) hx hb d_R_ancestors_5 (by decide) (fun c_5 => ?_) (fun c_5 => ?_)
  · have hres := zi_n c_5 hres
    refine lv_iconst (v := 0) hx hb d_R_ancestors_10 (by decide) ?_
    refine lv_istore_n (lv' := [(2, .int 0), (0, .ref (q 0)), (1, .int a0)]) hx hb d_R_ancestors_11 rfl hl (by decide) rfl (fun ls hl => ?_)
    refine lv_iconst (v := 0) hx hb d_R_ancestors_12 (by decide) ?_
    refine lv_istore_n (lv' := [(3, .int 0), (2, .int 0), (0, .ref (q 0)), (1, .int a0)]) hx hb d_R_ancestors_13 rfl hl (by decide) rfl (fun ls hl => ?_)
    obtain ⟨w14, hL14, hres⟩ := zo_b hres
    have hk14 : ∀ (ls : Array Slot), lv_has ls 4 [(3, .int w14.1), (2, .int w14.2), (0, .ref (q 0)), (1, .int a0)] → W p l e (headSpec w_R_ancestors ({ frames := 1, cells := 0, slots := 0, locals := 21 } : Room)).room s m ([.ref (q 0), .int a0].toArray) below meth c s.heap [] 0 0 (MQ below (vp_Si (fun r : Int32 => r = v)) ([.ref (q 0), .int a0].toArray) s 0 0 (fun _ => False)) (F0 m 49 ls []) := by
      intro ls hl
      refine lv_iload_n hx hb d_R_ancestors_49 rfl (lv_at hl 1 rfl) ?_
      obtain rfl := Option.some.inj hres
      exact W.iret (v := w14.2) hx hb hr (fun t ht hW => ⟨_, rfl, rfl, ht⟩) (fun _ hq => by cases hq) d_R_ancestors_50
    have hloop14 : ∀ (n : Nat) (x14_3 : Int32) (x14_2 : Int32) (ls : Array Slot), lv_has ls 4 [(3, .int x14_3), (2, .int x14_2), (0, .ref (q 0)), (1, .int a0)] → L_R_ancestors_14 ρ a0 n x14_3 x14_2 = some w14 → W p l e (headSpec w_R_ancestors ({ frames := 1, cells := 0, slots := 0, locals := 21 } : Room)).room s m ([.ref (q 0), .int a0].toArray) below meth c s.heap [] 0 0 (MQ below (vp_Si (fun r : Int32 => r = v)) ([.ref (q 0), .int a0].toArray) s 0 0 (fun _ => False)) (F0 m 14 ls []) := by
      intro n
      induction n with
      | zero => intro x14_3 x14_2 ls hl hL14; cases hL14
      | succ n ih =>
        intro x14_3 x14_2 ls hl hL14
        rw [L_R_ancestors_14] at hL14
        refine lv_iload_n hx hb d_R_ancestors_14 rfl (lv_at hl 0 rfl) ?_
        refine lv_bipush (v := 60) hx hb d_R_ancestors_15 (by decide) ?_
        refine lv_icmp_ge (tgt := 49) hx hb d_R_ancestors_17 (by decide) (fun c_17 => ?_) (fun c_17 => ?_)
        · have hL14 := zi_p c_17 hL14
          obtain rfl := Option.some.inj hL14
          exact hk14 ls (lv_sub hl [0, 1, 2, 3] rfl)
        · have hL14 := zi_n c_17 hL14
          refine lv_aload_n hx hb d_R_ancestors_20 rfl (lv_at hl 2 rfl) ?_
          refine va_get (D := D) (ci := 4) (v := .ref (q 14)) (C := R_R) (T := T_R) (N := 23) hx hb hts in_R hown hK hP (0) rfl rfl 14 (by decide) (hts _ k_442) (fun _ h9 => h9) rfl d_R_ancestors_21 ?_
          refine lv_iload_n hx hb d_R_ancestors_24 rfl (lv_at hl 3 rfl) ?_
          by_cases ck_25 : zin a0 60
          · have hL14 := zi_p ck_25 hL14
            refine va_lald hx hb hK hP 14 13 rfl rfl ck_25 d_R_ancestors_25 ?_
            refine lv_iload_n hx hb d_R_ancestors_26 rfl (lv_at hl 0 rfl) ?_
            refine lv_lshr (v := (zr_l (ρ.2.1.1.2 a0.toNatClampNeg) x14_3)) hx hb d_R_ancestors_27 rfl ?_
            refine lv_lconst (v := 1) hx hb d_R_ancestors_28 (by decide) ?_
            refine lv_land hx hb d_R_ancestors_29 ?_
            refine lv_lconst (v := 1) hx hb d_R_ancestors_30 (by decide) ?_
            refine W.lcmp hx hb d_R_ancestors_31 ?_
            refine lv_if_ne (tgt := 41) hx hb d_R_ancestors_32 (by decide) (fun c_32 => ?_) (fun c_32 => ?_)
            · have hL14 := zi_n c_32 hL14
              refine lv_iload_n hx hb d_R_ancestors_41 rfl (lv_at hl 1 rfl) ?_
              refine lv_istore_n (lv' := [(2, .int x14_2), (3, .int x14_3), (0, .ref (q 0)), (1, .int a0)]) hx hb d_R_ancestors_42 rfl hl (by decide) rfl (fun ls hl => ?_)
              refine lv_iinc (v := (x14_3 + 1)) (lv' := [(3, .int (x14_3 + 1)), (2, .int x14_2), (0, .ref (q 0)), (1, .int a0)]) hx hb d_R_ancestors_43 hl (k := 1) rfl rfl (by decide) rfl (fun ls hl => ?_)
              refine lv_goto (tgt := 14) hx hb d_R_ancestors_46 (by decide) ?_
              exact ih (x14_3 + 1) x14_2 ls (lv_sub hl [0, 1, 2, 3] rfl) hL14
            · have hL14 := zi_p c_32 hL14
              refine lv_iload_n hx hb d_R_ancestors_35 rfl (lv_at hl 1 rfl) ?_
              refine lv_iconst (v := 1) hx hb d_R_ancestors_36 (by decide) ?_
              refine lv_iadd hx hb d_R_ancestors_37 ?_
              refine lv_goto (tgt := 42) hx hb d_R_ancestors_38 (by decide) ?_
              refine lv_istore_n (lv' := [(2, .int (x14_2 + 1)), (3, .int x14_3), (0, .ref (q 0)), (1, .int a0)]) hx hb d_R_ancestors_42 rfl hl (by decide) rfl (fun ls hl => ?_)
              refine lv_iinc (v := (x14_3 + 1)) (lv' := [(3, .int (x14_3 + 1)), (2, .int (x14_2 + 1)), (0, .ref (q 0)), (1, .int a0)]) hx hb d_R_ancestors_43 hl (k := 1) rfl rfl (by decide) rfl (fun ls hl => ?_)
              refine lv_goto (tgt := 14) hx hb d_R_ancestors_46 (by decide) ?_
              exact ih (x14_3 + 1) (x14_2 + 1) ls (lv_sub hl [0, 1, 2, 3] rfl) hL14
          · exact absurd (zi_n ck_25 hL14) (by simp)
    exact hloop14 zfuel 0 0 ls (lv_sub hl [0, 1, 2, 3] rfl) hL14
  · have hres := zi_p c_5 hres
    refine lv_iconst (v := (-1)) hx hb d_R_ancestors_8 (by decide) ?_
    obtain rfl := Option.some.inj hres
    exact W.iret (v := (-1)) hx hb hr (fun t ht hW => ⟨_, rfl, rfl, ht⟩) (fun _ hq => by cases hq) d_R_ancestors_9
def f_R_before (ρ : RSt) (a0 : Int32) (a1 : Int32) (a2 : Int32) : Option (Int32) :=
  Option.bind (f_R_placeOf ρ a0 a1) (fun v3 =>
    if v3 < 0 then
      some 0
    else
      Option.bind (f_R_placeOf ρ a0 a2) (fun v18 =>
        if v18 ≤ v3 then
          some 0
        else
          some 1))
set_option maxHeartbeats 4000000 in
set_option maxRecDepth 100000 in
theorem c_R_before (l : Launch) (D : va_G) (tys : List (ClassId × FieldType)) (q : Nat → Nat) (cR : Nat → ClassId) (ρ : RSt) (a0 : Int32) (a1 : Int32) (a2 : Int32) (v : Int32) (hres : f_R_before ρ a0 a1 a2 = some v) : Met l y_R_before w_R_before ({ frames := 1, cells := 0, slots := 0, locals := 23 } : Room) (va_Pc ([.ref (q 0), .int a0, .int a1, .int a2]) (zro D (zRt cR) (zR q cR ρ))) (vp_Si (fun r : Int32 => r = v)) 0 0 (fun _ => False) := by
  refine Met.ofW (cc := b_R_before) (maxL := 5) (ret := (some .boolean)) (by decide) rfl ?_
  intro p e s m args below meth c s₁ B hml hv
  obtain ⟨rfl, hP, hK, hN⟩ := hv
  have hx := B.exec
  have hb := B.bytes
  have hr := B.returns
  have hts : ∀ w ∈ zt, w.before ([.ref (q 0), .int a0, .int a1, .int a2].toArray) s = true := fun w h => atoms_spec (ws := w_R_before) B.pre w (List.mem_cons_of_mem _ h)
  have hown : s.vm.findClass R_R = some m.cls := findClass_of_methodNamed B.named
  have hlocks := B.notSynchronized
  have hl := lv_entry ([.ref (q 0), .int a0, .int a1, .int a2]) (n := 5) (Nat.le_of_ble_eq_true rfl)
  rw [lg_entry_eq]
  generalize (lg_sl ([.ref (q 0), .int a0, .int a1, .int a2]) ++ List.replicate (5 - (lg_sl ([.ref (q 0), .int a0, .int a1, .int a2])).length) Slot.unset).toArray = ls at hl ⊢
  have hl : lv_has ls 5 [(0, .ref (q 0)), (1, .int a0), (2, .int a1), (3, .int a2)] := hl
  unfold f_R_before at hres
  refine lv_aload_n hx hb d_R_before_0 rfl (lv_at hl 0 rfl) ?_
  refine lv_iload_n hx hb d_R_before_1 rfl (lv_at hl 1 rfl) ?_
  refine lv_iload_n hx hb d_R_before_2 rfl (lv_at hl 2 rfl) ?_
  obtain ⟨v3, hc3, hres⟩ := zo_b hres
  refine vp_callSi (va_Run.run (va_runV (As := [.int a0, .int a1]) (rest := []) ⟨hx, hb, hml, hown, hts⟩ (c_R_placeOf l D (zRt cR) q cR ρ a0 a1 v3 hc3) (cwV 2 hts (zg_V k_512 k_514 k_10 k_32 g_R_placeOf) rfl rfl rfl ⟨rfl, hd_R_placeOf⟩ ⟨Nat.le_of_ble_eq_true rfl, Nat.le_of_ble_eq_true rfl⟩) ⟨zro_b _, va_recv hK hP (q0 := 0) rfl rfl, zro_p hP hK hN _⟩ rfl rfl hl.1 rfl (lv_room (Nat.le_of_ble_eq_true rfl)) d_R_before_3 ⟨Nat.zero_le _, Nat.zero_le _⟩)) (fun r_3 er_3 => ?_)
  have er_3 := er_3.symm
  subst er_3
  refine lv_istore (lv' := [(4, .int v3), (0, .ref (q 0)), (1, .int a0), (2, .int a1), (3, .int a2)]) hx hb d_R_before_6 hl (by decide) rfl (fun ls hl => ?_)
  refine lv_iload hx hb d_R_before_8 (lv_at hl 0 rfl) ?_
  refine lv_if_lt (tgt := 28) hx hb d_R_before_10 (by decide) (fun c_10 => ?_) (fun c_10 => ?_)
  · have hres := zi_p c_10 hres
    refine lv_iconst (v := 0) hx hb d_R_before_28 (by decide) ?_
    obtain rfl := Option.some.inj hres
    exact W.zret (v := 0) (ty := .boolean) hx hb hr rfl (fun t ht hW => ⟨_, rfl, rfl, ht⟩) (fun _ hq => by cases hq) d_R_before_29
  · have hres := zi_n c_10 hres
    refine lv_iload hx hb d_R_before_13 (lv_at hl 0 rfl) ?_
    refine lv_aload_n hx hb d_R_before_15 rfl (lv_at hl 1 rfl) ?_
    refine lv_iload_n hx hb d_R_before_16 rfl (lv_at hl 2 rfl) ?_
    refine lv_iload_n hx hb d_R_before_17 rfl (lv_at hl 4 rfl) ?_
    obtain ⟨v18, hc18, hres⟩ := zo_b hres
    refine vp_callSi (va_Run.run (va_runV (As := [.int a0, .int a2]) (rest := [.int v3]) ⟨hx, hb, hml, hown, hts⟩ (c_R_placeOf l D (zRt cR) q cR ρ a0 a2 v18 hc18) (cwV 2 hts (zg_V k_512 k_514 k_10 k_32 g_R_placeOf) rfl rfl rfl ⟨rfl, hd_R_placeOf⟩ ⟨Nat.le_of_ble_eq_true rfl, Nat.le_of_ble_eq_true rfl⟩) ⟨zro_b _, va_recv hK hP (q0 := 0) rfl rfl, zro_p hP hK hN _⟩ rfl rfl hl.1 rfl (lv_room (Nat.le_of_ble_eq_true rfl)) d_R_before_18 ⟨Nat.zero_le _, Nat.zero_le _⟩)) (fun r_18 er_18 => ?_)
    have er_18 := er_18.symm
    subst er_18
    refine lv_icmp_ge (tgt := 28) hx hb d_R_before_21 (by decide) (fun c_21 => ?_) (fun c_21 => ?_)
    · have hres := zi_p c_21 hres
      refine lv_iconst (v := 0) hx hb d_R_before_28 (by decide) ?_
      obtain rfl := Option.some.inj hres
      exact W.zret (v := 0) (ty := .boolean) hx hb hr rfl (fun t ht hW => ⟨_, rfl, rfl, ht⟩) (fun _ hq => by cases hq) d_R_before_29
    · have hres := zi_n c_21 hres
      refine lv_iconst (v := 1) hx hb d_R_before_24 (by decide) ?_
      refine lv_goto (tgt := 29) hx hb d_R_before_25 (by decide) ?_
      obtain rfl := Option.some.inj hres
      exact W.zret (v := 1) (ty := .boolean) hx hb hr rfl (fun t ht hW => ⟨_, rfl, rfl, ht⟩) (fun _ hq => by cases hq) d_R_before_29
abbrev qd_R_enter (D : va_G) (tys : List (ClassId × FieldType)) (q : Nat → Nat) (cR : Nat → ClassId) (ρ : RSt) (a0 : Int32) (a1 : Int32) (a2 : Int32) (v : RSt) (A : Nat → Prop) : Array Value → State → Outcome → State → Prop := va_Qv (fun _ : Unit => True) (fun _ t => zwd D (zRt cR) (A) (zR q cR v) t) (A)

def f_R_enter (ρ : RSt) (a0 : Int32) (a1 : Int32) (a2 : Int32) : Option (RSt) :=
  if zin a0 5 then
    if zin a0 5 then
      if zin a0 5 then
        Option.bind (f_R_meetOf (((((ρ.1.1.1.1.1, ρ.1.1.1.1.2), ρ.1.1.1.2), ((ρ.1.1.2.1.1, ρ.1.1.2.1.2), ρ.1.1.2.2)), (((ρ.1.2.1.1.1, ρ.1.2.1.1.2), ρ.1.2.1.2), ((ρ.1.2.2.1.1, ρ.1.2.2.1.2), ρ.1.2.2.2))), ((((ρ.2.1.1.1.1, ρ.2.1.1.1.2), ρ.2.1.1.2), ((ρ.2.1.2.1.1, ρ.2.1.2.1.2), ρ.2.1.2.2)), (((ρ.2.2.1.1.1, ρ.2.2.1.1.2), (upd ρ.2.2.1.2 a0.toNatClampNeg a1)), ((upd ρ.2.2.2.1 a0.toNatClampNeg a2), (upd ρ.2.2.2.2 a0.toNatClampNeg 1))))) a1 a2 0) (fun v25 =>
          if 0 ≤ v25 then
            Option.bind (f_R_copy (((((ρ.1.1.1.1.1, ρ.1.1.1.1.2), ρ.1.1.1.2), ((ρ.1.1.2.1.1, ρ.1.1.2.1.2), ρ.1.1.2.2)), (((ρ.1.2.1.1.1, ρ.1.2.1.1.2), ρ.1.2.1.2), ((ρ.1.2.2.1.1, ρ.1.2.2.1.2), ρ.1.2.2.2))), ((((ρ.2.1.1.1.1, ρ.2.1.1.1.2), ρ.2.1.1.2), ((ρ.2.1.2.1.1, ρ.2.1.2.1.2), ρ.2.1.2.2)), (((ρ.2.2.1.1.1, ρ.2.2.1.1.2), (upd ρ.2.2.1.2 a0.toNatClampNeg a1)), ((upd ρ.2.2.2.1 a0.toNatClampNeg a2), (upd ρ.2.2.2.2 a0.toNatClampNeg 1))))) v25 (60 + a0)) (fun v47 =>
              some v47)
          else
            Option.bind (f_R_copy (((((ρ.1.1.1.1.1, ρ.1.1.1.1.2), ρ.1.1.1.2), ((ρ.1.1.2.1.1, ρ.1.1.2.1.2), ρ.1.1.2.2)), (((ρ.1.2.1.1.1, ρ.1.2.1.1.2), ρ.1.2.1.2), ((ρ.1.2.2.1.1, ρ.1.2.2.1.2), ρ.1.2.2.2))), ((((ρ.2.1.1.1.1, ρ.2.1.1.1.2), ρ.2.1.1.2), ((ρ.2.1.2.1.1, ρ.2.1.2.1.2), ρ.2.1.2.2)), (((ρ.2.2.1.1.1, ρ.2.2.1.1.2), (upd ρ.2.2.1.2 a0.toNatClampNeg a1)), ((upd ρ.2.2.2.1 a0.toNatClampNeg a2), (upd ρ.2.2.2.2 a0.toNatClampNeg 1))))) 66 (60 + a0)) (fun v47 =>
              some v47))
      else
        none
    else
      none
  else
    none
set_option maxHeartbeats 4000000 in
set_option maxRecDepth 100000 in
theorem c_R_enter (l : Launch) (D : va_G) (tys : List (ClassId × FieldType)) (sz : Nat) (q : Nat → Nat) (cR : Nat → ClassId) (ρ : RSt) (a0 : Int32) (a1 : Int32) (a2 : Int32) (v : RSt) (hres : f_R_enter ρ a0 a1 a2 = some v) : Met l y_R_enter w_R_enter ({ frames := 1, cells := 0, slots := 0, locals := 29 } : Room) (va_Pc ([.ref (q 0), .int a0, .int a1, .int a2]) (zrw D (zRt cR) sz (zR q cR ρ))) (qd_R_enter D tys q cR ρ a0 a1 a2 v (va_A (zR q cR ρ) sz)) 0 0 (va_A (zR q cR ρ) sz) := by
  refine Met.ofW (cc := b_R_enter) (maxL := 5) (ret := none) (by decide) rfl ?_
  intro p e s m args below meth c s₁ B hml hv
  obtain ⟨rfl, hsz, hP, hK, hD0, hN⟩ := hv
  have hx := B.exec
  have hb := B.bytes
  have hr := B.returns
  have hts : ∀ w ∈ zt, w.before ([.ref (q 0), .int a0, .int a1, .int a2].toArray) s = true := fun w h => atoms_spec (ws := w_R_enter) B.pre w (List.mem_cons_of_mem _ h)
  have hown : s.vm.findClass R_R = some m.cls := findClass_of_methodNamed B.named
  have hlocks := B.notSynchronized
  subst hsz
  have hD := hD0.self (sz := s.heap.size)
  generalize hAe : va_A (zR q cR ρ) s.heap.size = A at hD ⊢
  have hA : ∀ q : Nat, s.heap.size ≤ q → A q := fun q h => by rw [← hAe]; exact Or.inr h
  have hS : va_S A s.heap s.heap [] := va_S.rf
  have hP : va_P D vwCl (zR q cR ρ) s.heap := hP
  have hD : va_D A (zR q cR ρ) := hD
  have hl := lv_entry ([.ref (q 0), .int a0, .int a1, .int a2]) (n := 5) (Nat.le_of_ble_eq_true rfl)
  rw [lg_entry_eq]
  generalize (lg_sl ([.ref (q 0), .int a0, .int a1, .int a2]) ++ List.replicate (5 - (lg_sl ([.ref (q 0), .int a0, .int a1, .int a2])).length) Slot.unset).toArray = ls at hl ⊢
  have hl : lv_has ls 5 [(0, .ref (q 0)), (1, .int a0), (2, .int a1), (3, .int a2)] := hl
  unfold f_R_enter at hres
  refine lv_aload_n hx hb d_R_enter_0 rfl (lv_at hl 0 rfl) ?_
  refine va_get (D := D) (ci := 4) (v := .ref (q 19)) (C := R_R) (T := T_R) (N := 23) hx hb hts in_R hown hK hP (0) rfl rfl 20 (by decide) (hts _ k_448) (fun _ h9 => h9) rfl d_R_enter_1 ?_
  refine lv_iload_n hx hb d_R_enter_4 rfl (lv_at hl 1 rfl) ?_
  refine lv_iload_n hx hb d_R_enter_5 rfl (lv_at hl 2 rfl) ?_
  by_cases ck_6 : zin a0 5
  · have hres := zi_p ck_6 hres
    refine va_iast hx hb hK hP hD hS 19 18 rfl rfl ck_6 d_R_enter_6 (fun H locs hP hD hS => ?_)
    have hP : va_P D vwCl ([(q 0, .inr (4, [.ref (q 1), .ref (q 2), .ref (q 3), .ref (q 4), .ref (q 5), .ref (q 6), .ref (q 7), .ref (q 8), .ref (q 9), .ref (q 10), .ref (q 11), .int ρ.1.2.2.2, .ref (q 12), .ref (q 13), .ref (q 14), .ref (q 15), .ref (q 16), .ref (q 17), .int ρ.2.2.1.1.1, .ref (q 18), .ref (q 19), .ref (q 20), .ref (q 21)])), (q 1, .inl (cR 1, 67, .inr (.inl ρ.1.1.1.1.1))), (q 2, .inl (cR 2, 67, .inl ρ.1.1.1.1.2)), (q 3, .inl (cR 3, 67, .inl ρ.1.1.1.2)), (q 4, .inl (cR 4, 67, .inl ρ.1.1.2.1.1)), (q 5, .inl (cR 5, 67, .inr (.inl ρ.1.1.2.1.2))), (q 6, .inl (cR 6, 67, .inl ρ.1.1.2.2)), (q 7, .inl (cR 7, 536, .inl ρ.1.2.1.1.1)), (q 8, .inl (cR 8, 67, .inl ρ.1.2.1.1.2)), (q 9, .inl (cR 9, 67, .inr (.inl ρ.1.2.1.2))), (q 10, .inl (cR 10, 67, .inr (.inl ρ.1.2.2.1.1))), (q 11, .inl (cR 11, 67, .inl ρ.1.2.2.1.2)), (q 12, .inl (cR 12, 60, .inl ρ.2.1.1.1.1)), (q 13, .inl (cR 13, 60, .inl ρ.2.1.1.1.2)), (q 14, .inl (cR 14, 60, .inr (.inl ρ.2.1.1.2))), (q 15, .inl (cR 15, 60, .inr (.inl ρ.2.1.2.1.1))), (q 16, .inl (cR 16, 4, .inl ρ.2.1.2.1.2)), (q 17, .inl (cR 17, 4, .inl ρ.2.1.2.2)), (q 18, .inl (cR 18, 100, .inl ρ.2.2.1.1.2)), (q 19, .inl (cR 19, 5, .inl (upd ρ.2.2.1.2 a0.toNatClampNeg a1))), (q 20, .inl (cR 20, 5, .inl ρ.2.2.2.1)), (q 21, .inl (cR 21, 5, .inl ρ.2.2.2.2))]) H := hP
    have hD : va_D A ([(q 0, .inr (4, [.ref (q 1), .ref (q 2), .ref (q 3), .ref (q 4), .ref (q 5), .ref (q 6), .ref (q 7), .ref (q 8), .ref (q 9), .ref (q 10), .ref (q 11), .int ρ.1.2.2.2, .ref (q 12), .ref (q 13), .ref (q 14), .ref (q 15), .ref (q 16), .ref (q 17), .int ρ.2.2.1.1.1, .ref (q 18), .ref (q 19), .ref (q 20), .ref (q 21)])), (q 1, .inl (cR 1, 67, .inr (.inl ρ.1.1.1.1.1))), (q 2, .inl (cR 2, 67, .inl ρ.1.1.1.1.2)), (q 3, .inl (cR 3, 67, .inl ρ.1.1.1.2)), (q 4, .inl (cR 4, 67, .inl ρ.1.1.2.1.1)), (q 5, .inl (cR 5, 67, .inr (.inl ρ.1.1.2.1.2))), (q 6, .inl (cR 6, 67, .inl ρ.1.1.2.2)), (q 7, .inl (cR 7, 536, .inl ρ.1.2.1.1.1)), (q 8, .inl (cR 8, 67, .inl ρ.1.2.1.1.2)), (q 9, .inl (cR 9, 67, .inr (.inl ρ.1.2.1.2))), (q 10, .inl (cR 10, 67, .inr (.inl ρ.1.2.2.1.1))), (q 11, .inl (cR 11, 67, .inl ρ.1.2.2.1.2)), (q 12, .inl (cR 12, 60, .inl ρ.2.1.1.1.1)), (q 13, .inl (cR 13, 60, .inl ρ.2.1.1.1.2)), (q 14, .inl (cR 14, 60, .inr (.inl ρ.2.1.1.2))), (q 15, .inl (cR 15, 60, .inr (.inl ρ.2.1.2.1.1))), (q 16, .inl (cR 16, 4, .inl ρ.2.1.2.1.2)), (q 17, .inl (cR 17, 4, .inl ρ.2.1.2.2)), (q 18, .inl (cR 18, 100, .inl ρ.2.2.1.1.2)), (q 19, .inl (cR 19, 5, .inl (upd ρ.2.2.1.2 a0.toNatClampNeg a1))), (q 20, .inl (cR 20, 5, .inl ρ.2.2.2.1)), (q 21, .inl (cR 21, 5, .inl ρ.2.2.2.2))]) := hD
    refine lv_aload_n hx hb d_R_enter_7 rfl (lv_at hl 0 rfl) ?_
    refine va_get (D := D) (ci := 4) (v := .ref (q 20)) (C := R_R) (T := T_R) (N := 23) hx hb hts in_R hown hK hP (0) rfl rfl 21 (by decide) (hts _ k_449) (fun _ h9 => h9) rfl d_R_enter_8 ?_
    refine lv_iload_n hx hb d_R_enter_11 rfl (lv_at hl 1 rfl) ?_
    refine lv_iload_n hx hb d_R_enter_12 rfl (lv_at hl 3 rfl) ?_
    by_cases ck_13 : zin a0 5
    · have hres := zi_p ck_13 hres
      refine va_iast hx hb hK hP hD hS 20 19 rfl rfl ck_13 d_R_enter_13 (fun H locs hP hD hS => ?_)
      have hP : va_P D vwCl ([(q 0, .inr (4, [.ref (q 1), .ref (q 2), .ref (q 3), .ref (q 4), .ref (q 5), .ref (q 6), .ref (q 7), .ref (q 8), .ref (q 9), .ref (q 10), .ref (q 11), .int ρ.1.2.2.2, .ref (q 12), .ref (q 13), .ref (q 14), .ref (q 15), .ref (q 16), .ref (q 17), .int ρ.2.2.1.1.1, .ref (q 18), .ref (q 19), .ref (q 20), .ref (q 21)])), (q 1, .inl (cR 1, 67, .inr (.inl ρ.1.1.1.1.1))), (q 2, .inl (cR 2, 67, .inl ρ.1.1.1.1.2)), (q 3, .inl (cR 3, 67, .inl ρ.1.1.1.2)), (q 4, .inl (cR 4, 67, .inl ρ.1.1.2.1.1)), (q 5, .inl (cR 5, 67, .inr (.inl ρ.1.1.2.1.2))), (q 6, .inl (cR 6, 67, .inl ρ.1.1.2.2)), (q 7, .inl (cR 7, 536, .inl ρ.1.2.1.1.1)), (q 8, .inl (cR 8, 67, .inl ρ.1.2.1.1.2)), (q 9, .inl (cR 9, 67, .inr (.inl ρ.1.2.1.2))), (q 10, .inl (cR 10, 67, .inr (.inl ρ.1.2.2.1.1))), (q 11, .inl (cR 11, 67, .inl ρ.1.2.2.1.2)), (q 12, .inl (cR 12, 60, .inl ρ.2.1.1.1.1)), (q 13, .inl (cR 13, 60, .inl ρ.2.1.1.1.2)), (q 14, .inl (cR 14, 60, .inr (.inl ρ.2.1.1.2))), (q 15, .inl (cR 15, 60, .inr (.inl ρ.2.1.2.1.1))), (q 16, .inl (cR 16, 4, .inl ρ.2.1.2.1.2)), (q 17, .inl (cR 17, 4, .inl ρ.2.1.2.2)), (q 18, .inl (cR 18, 100, .inl ρ.2.2.1.1.2)), (q 19, .inl (cR 19, 5, .inl (upd ρ.2.2.1.2 a0.toNatClampNeg a1))), (q 20, .inl (cR 20, 5, .inl (upd ρ.2.2.2.1 a0.toNatClampNeg a2))), (q 21, .inl (cR 21, 5, .inl ρ.2.2.2.2))]) H := hP
      have hD : va_D A ([(q 0, .inr (4, [.ref (q 1), .ref (q 2), .ref (q 3), .ref (q 4), .ref (q 5), .ref (q 6), .ref (q 7), .ref (q 8), .ref (q 9), .ref (q 10), .ref (q 11), .int ρ.1.2.2.2, .ref (q 12), .ref (q 13), .ref (q 14), .ref (q 15), .ref (q 16), .ref (q 17), .int ρ.2.2.1.1.1, .ref (q 18), .ref (q 19), .ref (q 20), .ref (q 21)])), (q 1, .inl (cR 1, 67, .inr (.inl ρ.1.1.1.1.1))), (q 2, .inl (cR 2, 67, .inl ρ.1.1.1.1.2)), (q 3, .inl (cR 3, 67, .inl ρ.1.1.1.2)), (q 4, .inl (cR 4, 67, .inl ρ.1.1.2.1.1)), (q 5, .inl (cR 5, 67, .inr (.inl ρ.1.1.2.1.2))), (q 6, .inl (cR 6, 67, .inl ρ.1.1.2.2)), (q 7, .inl (cR 7, 536, .inl ρ.1.2.1.1.1)), (q 8, .inl (cR 8, 67, .inl ρ.1.2.1.1.2)), (q 9, .inl (cR 9, 67, .inr (.inl ρ.1.2.1.2))), (q 10, .inl (cR 10, 67, .inr (.inl ρ.1.2.2.1.1))), (q 11, .inl (cR 11, 67, .inl ρ.1.2.2.1.2)), (q 12, .inl (cR 12, 60, .inl ρ.2.1.1.1.1)), (q 13, .inl (cR 13, 60, .inl ρ.2.1.1.1.2)), (q 14, .inl (cR 14, 60, .inr (.inl ρ.2.1.1.2))), (q 15, .inl (cR 15, 60, .inr (.inl ρ.2.1.2.1.1))), (q 16, .inl (cR 16, 4, .inl ρ.2.1.2.1.2)), (q 17, .inl (cR 17, 4, .inl ρ.2.1.2.2)), (q 18, .inl (cR 18, 100, .inl ρ.2.2.1.1.2)), (q 19, .inl (cR 19, 5, .inl (upd ρ.2.2.1.2 a0.toNatClampNeg a1))), (q 20, .inl (cR 20, 5, .inl (upd ρ.2.2.2.1 a0.toNatClampNeg a2))), (q 21, .inl (cR 21, 5, .inl ρ.2.2.2.2))]) := hD
      refine lv_aload_n hx hb d_R_enter_14 rfl (lv_at hl 0 rfl) ?_
      refine va_get (D := D) (ci := 4) (v := .ref (q 21)) (C := R_R) (T := T_R) (N := 23) hx hb hts in_R hown hK hP (0) rfl rfl 22 (by decide) (hts _ k_450) (fun _ h9 => h9) rfl d_R_enter_15 ?_
      refine lv_iload_n hx hb d_R_enter_18 rfl (lv_at hl 1 rfl) ?_
      refine lv_iconst (v := 1) hx hb d_R_enter_19 (by decide) ?_
      by_cases ck_20 : zin a0 5
      · have hres := zi_p ck_20 hres
        refine va_iast hx hb hK hP hD hS 21 20 rfl rfl ck_20 d_R_enter_20 (fun H locs hP hD hS => ?_)
        have hP : va_P D vwCl ([(q 0, .inr (4, [.ref (q 1), .ref (q 2), .ref (q 3), .ref (q 4), .ref (q 5), .ref (q 6), .ref (q 7), .ref (q 8), .ref (q 9), .ref (q 10), .ref (q 11), .int ρ.1.2.2.2, .ref (q 12), .ref (q 13), .ref (q 14), .ref (q 15), .ref (q 16), .ref (q 17), .int ρ.2.2.1.1.1, .ref (q 18), .ref (q 19), .ref (q 20), .ref (q 21)])), (q 1, .inl (cR 1, 67, .inr (.inl ρ.1.1.1.1.1))), (q 2, .inl (cR 2, 67, .inl ρ.1.1.1.1.2)), (q 3, .inl (cR 3, 67, .inl ρ.1.1.1.2)), (q 4, .inl (cR 4, 67, .inl ρ.1.1.2.1.1)), (q 5, .inl (cR 5, 67, .inr (.inl ρ.1.1.2.1.2))), (q 6, .inl (cR 6, 67, .inl ρ.1.1.2.2)), (q 7, .inl (cR 7, 536, .inl ρ.1.2.1.1.1)), (q 8, .inl (cR 8, 67, .inl ρ.1.2.1.1.2)), (q 9, .inl (cR 9, 67, .inr (.inl ρ.1.2.1.2))), (q 10, .inl (cR 10, 67, .inr (.inl ρ.1.2.2.1.1))), (q 11, .inl (cR 11, 67, .inl ρ.1.2.2.1.2)), (q 12, .inl (cR 12, 60, .inl ρ.2.1.1.1.1)), (q 13, .inl (cR 13, 60, .inl ρ.2.1.1.1.2)), (q 14, .inl (cR 14, 60, .inr (.inl ρ.2.1.1.2))), (q 15, .inl (cR 15, 60, .inr (.inl ρ.2.1.2.1.1))), (q 16, .inl (cR 16, 4, .inl ρ.2.1.2.1.2)), (q 17, .inl (cR 17, 4, .inl ρ.2.1.2.2)), (q 18, .inl (cR 18, 100, .inl ρ.2.2.1.1.2)), (q 19, .inl (cR 19, 5, .inl (upd ρ.2.2.1.2 a0.toNatClampNeg a1))), (q 20, .inl (cR 20, 5, .inl (upd ρ.2.2.2.1 a0.toNatClampNeg a2))), (q 21, .inl (cR 21, 5, .inl (upd ρ.2.2.2.2 a0.toNatClampNeg 1)))]) H := hP
        have hD : va_D A ([(q 0, .inr (4, [.ref (q 1), .ref (q 2), .ref (q 3), .ref (q 4), .ref (q 5), .ref (q 6), .ref (q 7), .ref (q 8), .ref (q 9), .ref (q 10), .ref (q 11), .int ρ.1.2.2.2, .ref (q 12), .ref (q 13), .ref (q 14), .ref (q 15), .ref (q 16), .ref (q 17), .int ρ.2.2.1.1.1, .ref (q 18), .ref (q 19), .ref (q 20), .ref (q 21)])), (q 1, .inl (cR 1, 67, .inr (.inl ρ.1.1.1.1.1))), (q 2, .inl (cR 2, 67, .inl ρ.1.1.1.1.2)), (q 3, .inl (cR 3, 67, .inl ρ.1.1.1.2)), (q 4, .inl (cR 4, 67, .inl ρ.1.1.2.1.1)), (q 5, .inl (cR 5, 67, .inr (.inl ρ.1.1.2.1.2))), (q 6, .inl (cR 6, 67, .inl ρ.1.1.2.2)), (q 7, .inl (cR 7, 536, .inl ρ.1.2.1.1.1)), (q 8, .inl (cR 8, 67, .inl ρ.1.2.1.1.2)), (q 9, .inl (cR 9, 67, .inr (.inl ρ.1.2.1.2))), (q 10, .inl (cR 10, 67, .inr (.inl ρ.1.2.2.1.1))), (q 11, .inl (cR 11, 67, .inl ρ.1.2.2.1.2)), (q 12, .inl (cR 12, 60, .inl ρ.2.1.1.1.1)), (q 13, .inl (cR 13, 60, .inl ρ.2.1.1.1.2)), (q 14, .inl (cR 14, 60, .inr (.inl ρ.2.1.1.2))), (q 15, .inl (cR 15, 60, .inr (.inl ρ.2.1.2.1.1))), (q 16, .inl (cR 16, 4, .inl ρ.2.1.2.1.2)), (q 17, .inl (cR 17, 4, .inl ρ.2.1.2.2)), (q 18, .inl (cR 18, 100, .inl ρ.2.2.1.1.2)), (q 19, .inl (cR 19, 5, .inl (upd ρ.2.2.1.2 a0.toNatClampNeg a1))), (q 20, .inl (cR 20, 5, .inl (upd ρ.2.2.2.1 a0.toNatClampNeg a2))), (q 21, .inl (cR 21, 5, .inl (upd ρ.2.2.2.2 a0.toNatClampNeg 1)))]) := hD
        refine lv_aload_n hx hb d_R_enter_21 rfl (lv_at hl 0 rfl) ?_
        refine lv_iload_n hx hb d_R_enter_22 rfl (lv_at hl 2 rfl) ?_
        refine lv_iload_n hx hb d_R_enter_23 rfl (lv_at hl 3 rfl) ?_
        refine lv_iconst (v := 0) hx hb d_R_enter_24 (by decide) ?_
        obtain ⟨v25, hc25, hres⟩ := zo_b hres
        refine vp_callSi (va_Run.run (va_runV (As := [.int a1, .int a2, .int 0]) (rest := []) ⟨hx, hb, hml, hown, hts⟩ (c_R_meetOf l D (zRt cR) q cR (((((ρ.1.1.1.1.1, ρ.1.1.1.1.2), ρ.1.1.1.2), ((ρ.1.1.2.1.1, ρ.1.1.2.1.2), ρ.1.1.2.2)), (((ρ.1.2.1.1.1, ρ.1.2.1.1.2), ρ.1.2.1.2), ((ρ.1.2.2.1.1, ρ.1.2.2.1.2), ρ.1.2.2.2))), ((((ρ.2.1.1.1.1, ρ.2.1.1.1.2), ρ.2.1.1.2), ((ρ.2.1.2.1.1, ρ.2.1.2.1.2), ρ.2.1.2.2)), (((ρ.2.2.1.1.1, ρ.2.2.1.1.2), (upd ρ.2.2.1.2 a0.toNatClampNeg a1)), ((upd ρ.2.2.2.1 a0.toNatClampNeg a2), (upd ρ.2.2.2.2 a0.toNatClampNeg 1))))) a1 a2 0 v25 hc25) (cwV 3 hts (zg_V k_571 k_573 k_20 k_32 g_R_meetOf) rfl rfl rfl ⟨rfl, hd_R_meetOf⟩ ⟨Nat.le_of_ble_eq_true rfl, Nat.le_of_ble_eq_true rfl⟩) ⟨zro_b _, va_recv hK hP (q0 := 0) rfl rfl, zro_p hP hK hN _⟩ rfl rfl hl.1 rfl (lv_room (Nat.le_of_ble_eq_true rfl)) d_R_enter_25 ⟨Nat.zero_le _, Nat.zero_le _⟩)) (fun r_25 er_25 => ?_)
        have er_25 := er_25.symm
        subst er_25
        refine lv_istore (lv' := [(4, .int v25), (0, .ref (q 0)), (1, .int a0), (2, .int a1), (3, .int a2)]) hx hb d_R_enter_28 hl (by decide) rfl (fun ls hl => ?_)
        refine lv_aload_n hx hb d_R_enter_30 rfl (lv_at hl 1 rfl) ?_
        refine lv_iload hx hb d_R_enter_31 (lv_at hl 0 rfl) ?_
        refine lv_if_ge (tgt := 41) hx hb d_R_enter_33 (by decide) (fun c_33 => ?_) (fun c_33 => ?_)
        · have hres := zi_p c_33 hres
          refine lv_iload hx hb d_R_enter_41 (lv_at hl 0 rfl) ?_
          refine lv_bipush (v := 60) hx hb d_R_enter_43 (by decide) ?_
          refine lv_iload_n hx hb d_R_enter_45 rfl (lv_at hl 2 rfl) ?_
          refine lv_iadd hx hb d_R_enter_46 ?_
          obtain ⟨v47, hc47, hres⟩ := zo_b hres
          refine zw_v (ws' := zR q cR v47) (va_runV (As := [.int v25, .int (60 + a0)]) (rest := []) ⟨hx, hb, hml, hown, hts⟩ (c_R_copy l D (zRt cR) _ q cR (((((ρ.1.1.1.1.1, ρ.1.1.1.1.2), ρ.1.1.1.2), ((ρ.1.1.2.1.1, ρ.1.1.2.1.2), ρ.1.1.2.2)), (((ρ.1.2.1.1.1, ρ.1.2.1.1.2), ρ.1.2.1.2), ((ρ.1.2.2.1.1, ρ.1.2.2.1.2), ρ.1.2.2.2))), ((((ρ.2.1.1.1.1, ρ.2.1.1.1.2), ρ.2.1.1.2), ((ρ.2.1.2.1.1, ρ.2.1.2.1.2), ρ.2.1.2.2)), (((ρ.2.2.1.1.1, ρ.2.2.1.1.2), (upd ρ.2.2.1.2 a0.toNatClampNeg a1)), ((upd ρ.2.2.2.1 a0.toNatClampNeg a2), (upd ρ.2.2.2.2 a0.toNatClampNeg 1))))) v25 (60 + a0) v47 hc47) (cwV 2 hts (zg_V k_516 k_518 k_11 k_32 g_R_copy) rfl rfl rfl ⟨rfl, hd_R_copy⟩ ⟨Nat.le_of_ble_eq_true rfl, Nat.le_of_ble_eq_true rfl⟩) ⟨zrw_b _, va_recv hK hP (q0 := 0) rfl rfl, zrw_w hP hD hK hN _⟩ rfl rfl hl.1 rfl (lv_room (Nat.le_of_ble_eq_true rfl)) d_R_enter_47 ⟨Nat.le_of_ble_eq_true rfl, Nat.le_of_ble_eq_true rfl⟩) hD hS hA (fun H locs hP hD hS => ?_)
          have hP : va_P D vwCl (zR q cR v47) H := hP
          have hD : va_D A (zR q cR v47) := hD
          obtain rfl := Option.some.inj hres
          exact W.vret hx hb hr (fun t ht hW => ⟨⟨(), rfl, trivial, by rw [ht]; exact hP, va_K.moved hW.alike hK, hD⟩, hS.F ht⟩) hS.2.2 d_R_enter_50
        · have hres := zi_n c_33 hres
          refine lv_bipush (v := 66) hx hb d_R_enter_36 (by decide) ?_
          refine lv_goto (tgt := 43) hx hb d_R_enter_38 (by decide) ?_
          refine lv_bipush (v := 60) hx hb d_R_enter_43 (by decide) ?_
          refine lv_iload_n hx hb d_R_enter_45 rfl (lv_at hl 2 rfl) ?_
          refine lv_iadd hx hb d_R_enter_46 ?_
          obtain ⟨v47, hc47, hres⟩ := zo_b hres
          refine zw_v (ws' := zR q cR v47) (va_runV (As := [.int 66, .int (60 + a0)]) (rest := []) ⟨hx, hb, hml, hown, hts⟩ (c_R_copy l D (zRt cR) _ q cR (((((ρ.1.1.1.1.1, ρ.1.1.1.1.2), ρ.1.1.1.2), ((ρ.1.1.2.1.1, ρ.1.1.2.1.2), ρ.1.1.2.2)), (((ρ.1.2.1.1.1, ρ.1.2.1.1.2), ρ.1.2.1.2), ((ρ.1.2.2.1.1, ρ.1.2.2.1.2), ρ.1.2.2.2))), ((((ρ.2.1.1.1.1, ρ.2.1.1.1.2), ρ.2.1.1.2), ((ρ.2.1.2.1.1, ρ.2.1.2.1.2), ρ.2.1.2.2)), (((ρ.2.2.1.1.1, ρ.2.2.1.1.2), (upd ρ.2.2.1.2 a0.toNatClampNeg a1)), ((upd ρ.2.2.2.1 a0.toNatClampNeg a2), (upd ρ.2.2.2.2 a0.toNatClampNeg 1))))) 66 (60 + a0) v47 hc47) (cwV 2 hts (zg_V k_516 k_518 k_11 k_32 g_R_copy) rfl rfl rfl ⟨rfl, hd_R_copy⟩ ⟨Nat.le_of_ble_eq_true rfl, Nat.le_of_ble_eq_true rfl⟩) ⟨zrw_b _, va_recv hK hP (q0 := 0) rfl rfl, zrw_w hP hD hK hN _⟩ rfl rfl hl.1 rfl (lv_room (Nat.le_of_ble_eq_true rfl)) d_R_enter_47 ⟨Nat.le_of_ble_eq_true rfl, Nat.le_of_ble_eq_true rfl⟩) hD hS hA (fun H locs hP hD hS => ?_)
          have hP : va_P D vwCl (zR q cR v47) H := hP
          have hD : va_D A (zR q cR v47) := hD
          obtain rfl := Option.some.inj hres
          exact W.vret hx hb hr (fun t ht hW => ⟨⟨(), rfl, trivial, by rw [ht]; exact hP, va_K.moved hW.alike hK, hD⟩, hS.F ht⟩) hS.2.2 d_R_enter_50
      · exact absurd (zi_n ck_20 hres) (by simp)
    · exact absurd (zi_n ck_13 hres) (by simp)
  · exact absurd (zi_n ck_6 hres) (by simp)
abbrev qd_R_fork (D : va_G) (tys : List (ClassId × FieldType)) (q : Nat → Nat) (cR : Nat → ClassId) (ρ : RSt) (a0 : Int32) (a1 : Int32) (v : Int32 × RSt) (A : Nat → Prop) : Array Value → State → Outcome → State → Prop := va_Qi (fun (r : Int32) (_ : Unit) => r = v.1) (fun _ t => zwd D (zRt cR) (A) (zR q cR v.2) t) (A)

def f_R_fork (ρ : RSt) (a0 : Int32) (a1 : Int32) : Option (Int32 × RSt) :=
  Option.bind (f_R_isBranch a0) (fun v1 =>
    if v1 = 0 then
      some (0, ρ)
    else
      Option.bind (f_R_isBranch a1) (fun v8 =>
        if v8 = 0 then
          some (0, ρ)
        else
          if zin a0 4 then
            Option.bind (f_R_move ρ a1 (ρ.2.1.2.1.2 a0.toNatClampNeg)) (fun v24 =>
              some (1, v24))
          else
            none))
set_option maxHeartbeats 4000000 in
set_option maxRecDepth 100000 in
theorem c_R_fork (l : Launch) (D : va_G) (tys : List (ClassId × FieldType)) (sz : Nat) (q : Nat → Nat) (cR : Nat → ClassId) (ρ : RSt) (a0 : Int32) (a1 : Int32) (v : Int32 × RSt) (hres : f_R_fork ρ a0 a1 = some v) : Met l y_R_fork w_R_fork ({ frames := 1, cells := 0, slots := 0, locals := 22 } : Room) (va_Pc ([.ref (q 0), .int a0, .int a1]) (zrw D (zRt cR) sz (zR q cR ρ))) (qd_R_fork D tys q cR ρ a0 a1 v (va_A (zR q cR ρ) sz)) 0 0 (va_A (zR q cR ρ) sz) := by
  refine Met.ofW (cc := b_R_fork) (maxL := 3) (ret := (some .boolean)) (by decide) rfl ?_
  intro p e s m args below meth c s₁ B hml hv
  obtain ⟨rfl, hsz, hP, hK, hD0, hN⟩ := hv
  have hx := B.exec
  have hb := B.bytes
  have hr := B.returns
  have hts : ∀ w ∈ zt, w.before ([.ref (q 0), .int a0, .int a1].toArray) s = true := fun w h => atoms_spec (ws := w_R_fork) B.pre w (List.mem_cons_of_mem _ h)
  have hown : s.vm.findClass R_R = some m.cls := findClass_of_methodNamed B.named
  have hlocks := B.notSynchronized
  subst hsz
  have hD := hD0.self (sz := s.heap.size)
  generalize hAe : va_A (zR q cR ρ) s.heap.size = A at hD ⊢
  have hA : ∀ q : Nat, s.heap.size ≤ q → A q := fun q h => by rw [← hAe]; exact Or.inr h
  have hS : va_S A s.heap s.heap [] := va_S.rf
  have hP : va_P D vwCl (zR q cR ρ) s.heap := hP
  have hD : va_D A (zR q cR ρ) := hD
  have hl := lv_entry ([.ref (q 0), .int a0, .int a1]) (n := 3) (Nat.le_of_ble_eq_true rfl)
  rw [lg_entry_eq]
  generalize (lg_sl ([.ref (q 0), .int a0, .int a1]) ++ List.replicate (3 - (lg_sl ([.ref (q 0), .int a0, .int a1])).length) Slot.unset).toArray = ls at hl ⊢
  have hl : lv_has ls 3 [(0, .ref (q 0)), (1, .int a0), (2, .int a1)] := hl
  unfold f_R_fork at hres
  refine lv_iload_n hx hb d_R_fork_0 rfl (lv_at hl 1 rfl) ?_
  obtain ⟨v1, hc1, hres⟩ := zo_b hres
  refine vp_callSi (va_Run.run (va_runS (As := [.int a0]) (rest := []) ⟨hx, hb, hml, hown, hts⟩ (c_R_isBranch l D (zRt cR) a0 v1 hc1) (va_cwS 1 hts (zg_S k_505 k_506 k_32 g_R_isBranch) rfl rfl rfl hd_R_isBranch ⟨Nat.le_of_ble_eq_true rfl, Nat.le_of_ble_eq_true rfl⟩) ⟨zro_b _, zro_p va_Pnil hK hN _⟩ rfl rfl hl.1 rfl (lv_room (Nat.le_of_ble_eq_true rfl)) d_R_fork_1 ⟨Nat.zero_le _, Nat.zero_le _⟩)) (fun r_1 er_1 => ?_)
  have er_1 := er_1.symm
  subst er_1
  refine lv_if_eq (tgt := 14) hx hb d_R_fork_4 (by decide) (fun c_4 => ?_) (fun c_4 => ?_)
  · have hres := zi_p c_4 hres
    refine lv_iconst (v := 0) hx hb d_R_fork_14 (by decide) ?_
    obtain rfl := Option.some.inj hres
    exact W.zret (v := 0) (ty := .boolean) hx hb hr rfl (fun t ht hW => ⟨⟨_, (), rfl, rfl, by rw [ht]; exact hP, va_K.moved hW.alike hK, hD⟩, hS.F ht⟩) hS.2.2 d_R_fork_15
  · have hres := zi_n c_4 hres
    refine lv_iload_n hx hb d_R_fork_7 rfl (lv_at hl 2 rfl) ?_
    obtain ⟨v8, hc8, hres⟩ := zo_b hres
    refine vp_callSi (va_Run.run (va_runS (As := [.int a1]) (rest := []) ⟨hx, hb, hml, hown, hts⟩ (c_R_isBranch l D (zRt cR) a1 v8 hc8) (va_cwS 1 hts (zg_S k_505 k_506 k_32 g_R_isBranch) rfl rfl rfl hd_R_isBranch ⟨Nat.le_of_ble_eq_true rfl, Nat.le_of_ble_eq_true rfl⟩) ⟨zro_b _, zro_p va_Pnil hK hN _⟩ rfl rfl hl.1 rfl (lv_room (Nat.le_of_ble_eq_true rfl)) d_R_fork_8 ⟨Nat.zero_le _, Nat.zero_le _⟩)) (fun r_8 er_8 => ?_)
    have er_8 := er_8.symm
    subst er_8
    refine lv_if_ne (tgt := 16) hx hb d_R_fork_11 (by decide) (fun c_11 => ?_) (fun c_11 => ?_)
    · have hres := zi_n c_11 hres
      refine lv_aload_n hx hb d_R_fork_16 rfl (lv_at hl 0 rfl) ?_
      refine lv_iload_n hx hb d_R_fork_17 rfl (lv_at hl 2 rfl) ?_
      refine lv_aload_n hx hb d_R_fork_18 rfl (lv_at hl 0 rfl) ?_
      refine va_get (D := D) (ci := 4) (v := .ref (q 16)) (C := R_R) (T := T_R) (N := 23) hx hb hts in_R hown hK hP (0) rfl rfl 16 (by decide) (hts _ k_444) (fun _ h9 => h9) rfl d_R_fork_19 ?_
      refine lv_iload_n hx hb d_R_fork_22 rfl (lv_at hl 1 rfl) ?_
      by_cases ck_23 : zin a0 4
      · have hres := zi_p ck_23 hres
        refine va_iald hx hb hK hP 16 15 rfl rfl ck_23 d_R_fork_23 ?_
        obtain ⟨v24, hc24, hres⟩ := zo_b hres
        refine zw_v (ws' := zR q cR v24) (va_runV (As := [.int a1, .int (ρ.2.1.2.1.2 a0.toNatClampNeg)]) (rest := []) ⟨hx, hb, hml, hown, hts⟩ (c_R_move l D (zRt cR) _ q cR ρ a1 (ρ.2.1.2.1.2 a0.toNatClampNeg) v24 hc24) (cwV 2 hts (zg_V k_539 k_541 k_15 k_32 g_R_move) rfl rfl rfl ⟨rfl, hd_R_move⟩ ⟨Nat.le_of_ble_eq_true rfl, Nat.le_of_ble_eq_true rfl⟩) ⟨zrw_b _, va_recv hK hP (q0 := 0) rfl rfl, zrw_w hP hD hK hN _⟩ rfl rfl hl.1 rfl (lv_room (Nat.le_of_ble_eq_true rfl)) d_R_fork_24 ⟨Nat.le_of_ble_eq_true rfl, Nat.le_of_ble_eq_true rfl⟩) hD hS hA (fun H locs hP hD hS => ?_)
        have hP : va_P D vwCl (zR q cR v24) H := hP
        have hD : va_D A (zR q cR v24) := hD
        refine lv_iconst (v := 1) hx hb d_R_fork_27 (by decide) ?_
        obtain rfl := Option.some.inj hres
        exact W.zret (v := 1) (ty := .boolean) hx hb hr rfl (fun t ht hW => ⟨⟨_, (), rfl, rfl, by rw [ht]; exact hP, va_K.moved hW.alike hK, hD⟩, hS.F ht⟩) hS.2.2 d_R_fork_28
      · exact absurd (zi_n ck_23 hres) (by simp)
    · have hres := zi_p c_11 hres
      refine lv_iconst (v := 0) hx hb d_R_fork_14 (by decide) ?_
      obtain rfl := Option.some.inj hres
      exact W.zret (v := 0) (ty := .boolean) hx hb hr rfl (fun t ht hW => ⟨⟨_, (), rfl, rfl, by rw [ht]; exact hP, va_K.moved hW.alike hK, hD⟩, hS.F ht⟩) hS.2.2 d_R_fork_15
def f_R_goesBefore (ρ : RSt) (a0 : Int32) (a1 : Int32) (a2 : Int32) (a3 : Int32) (a4 : Int32) : Option (Int32) :=
  Option.bind (f_R_before ρ a0 a3 a4) (fun v6 =>
    Option.bind (f_R_before ρ a1 a3 a4) (fun v17 =>
      Option.bind (f_R_before ρ a2 a3 a4) (fun v28 =>
        if v6 = 0 then
          if v17 = 0 then
            if v28 = 0 then
              some 0
            else
              some 1
          else
            some 1
        else
          if v17 = 0 then
            some 0
          else
            if v28 = 0 then
              some 0
            else
              some 1)))
set_option maxHeartbeats 4000000 in
set_option maxRecDepth 100000 in
theorem c_R_goesBefore (l : Launch) (D : va_G) (tys : List (ClassId × FieldType)) (q : Nat → Nat) (cR : Nat → ClassId) (ρ : RSt) (a0 : Int32) (a1 : Int32) (a2 : Int32) (a3 : Int32) (a4 : Int32) (v : Int32) (hres : f_R_goesBefore ρ a0 a1 a2 a3 a4 = some v) : Met l y_R_goesBefore w_R_goesBefore ({ frames := 2, cells := 0, slots := 0, locals := 47 } : Room) (va_Pc ([.ref (q 0), .int a0, .int a1, .int a2, .int a3, .int a4]) (zro D (zRt cR) (zR q cR ρ))) (vp_Si (fun r : Int32 => r = v)) 0 0 (fun _ => False) := by
  refine Met.ofW (cc := b_R_goesBefore) (maxL := 9) (ret := (some .boolean)) (by decide) rfl ?_
  intro p e s m args below meth c s₁ B hml hv
  obtain ⟨rfl, hP, hK, hN⟩ := hv
  have hx := B.exec
  have hb := B.bytes
  have hr := B.returns
  have hts : ∀ w ∈ zt, w.before ([.ref (q 0), .int a0, .int a1, .int a2, .int a3, .int a4].toArray) s = true := fun w h => atoms_spec (ws := w_R_goesBefore) B.pre w (List.mem_cons_of_mem _ h)
  have hown : s.vm.findClass R_R = some m.cls := findClass_of_methodNamed B.named
  have hlocks := B.notSynchronized
  have hl := lv_entry ([.ref (q 0), .int a0, .int a1, .int a2, .int a3, .int a4]) (n := 9) (Nat.le_of_ble_eq_true rfl)
  rw [lg_entry_eq]
  generalize (lg_sl ([.ref (q 0), .int a0, .int a1, .int a2, .int a3, .int a4]) ++ List.replicate (9 - (lg_sl ([.ref (q 0), .int a0, .int a1, .int a2, .int a3, .int a4])).length) Slot.unset).toArray = ls at hl ⊢
  have hl : lv_has ls 9 [(0, .ref (q 0)), (1, .int a0), (2, .int a1), (3, .int a2), (4, .int a3), (5, .int a4)] := hl
  unfold f_R_goesBefore at hres
  refine lv_aload_n hx hb d_R_goesBefore_0 rfl (lv_at hl 0 rfl) ?_
  refine lv_iload_n hx hb d_R_goesBefore_1 rfl (lv_at hl 1 rfl) ?_
  refine lv_iload hx hb d_R_goesBefore_2 (lv_at hl 4 rfl) ?_
  refine lv_iload hx hb d_R_goesBefore_4 (lv_at hl 5 rfl) ?_
  obtain ⟨v6, hc6, hres⟩ := zo_b hres
  refine vp_callSi (va_Run.run (va_runV (As := [.int a0, .int a3, .int a4]) (rest := []) ⟨hx, hb, hml, hown, hts⟩ (c_R_before l D (zRt cR) q cR ρ a0 a3 a4 v6 hc6) (cwV 3 hts (zg_V k_598 k_600 k_25 k_32 g_R_before) rfl rfl rfl ⟨rfl, hd_R_before⟩ ⟨Nat.le_of_ble_eq_true rfl, Nat.le_of_ble_eq_true rfl⟩) ⟨zro_b _, va_recv hK hP (q0 := 0) rfl rfl, zro_p hP hK hN _⟩ rfl rfl hl.1 rfl (lv_room (Nat.le_of_ble_eq_true rfl)) d_R_goesBefore_6 ⟨Nat.zero_le _, Nat.zero_le _⟩)) (fun r_6 er_6 => ?_)
  have er_6 := er_6.symm
  subst er_6
  refine lv_istore (lv' := [(6, .int v6), (0, .ref (q 0)), (1, .int a0), (2, .int a1), (3, .int a2), (4, .int a3), (5, .int a4)]) hx hb d_R_goesBefore_9 hl (by decide) rfl (fun ls hl => ?_)
  refine lv_aload_n hx hb d_R_goesBefore_11 rfl (lv_at hl 1 rfl) ?_
  refine lv_iload_n hx hb d_R_goesBefore_12 rfl (lv_at hl 3 rfl) ?_
  refine lv_iload hx hb d_R_goesBefore_13 (lv_at hl 5 rfl) ?_
  refine lv_iload hx hb d_R_goesBefore_15 (lv_at hl 6 rfl) ?_
  obtain ⟨v17, hc17, hres⟩ := zo_b hres
  refine vp_callSi (va_Run.run (va_runV (As := [.int a1, .int a3, .int a4]) (rest := []) ⟨hx, hb, hml, hown, hts⟩ (c_R_before l D (zRt cR) q cR ρ a1 a3 a4 v17 hc17) (cwV 3 hts (zg_V k_598 k_600 k_25 k_32 g_R_before) rfl rfl rfl ⟨rfl, hd_R_before⟩ ⟨Nat.le_of_ble_eq_true rfl, Nat.le_of_ble_eq_true rfl⟩) ⟨zro_b _, va_recv hK hP (q0 := 0) rfl rfl, zro_p hP hK hN _⟩ rfl rfl hl.1 rfl (lv_room (Nat.le_of_ble_eq_true rfl)) d_R_goesBefore_17 ⟨Nat.zero_le _, Nat.zero_le _⟩)) (fun r_17 er_17 => ?_)
  have er_17 := er_17.symm
  subst er_17
  refine lv_istore (lv' := [(7, .int v17), (6, .int v6), (0, .ref (q 0)), (1, .int a0), (2, .int a1), (3, .int a2), (4, .int a3), (5, .int a4)]) hx hb d_R_goesBefore_20 hl (by decide) rfl (fun ls hl => ?_)
  refine lv_aload_n hx hb d_R_goesBefore_22 rfl (lv_at hl 2 rfl) ?_
  refine lv_iload_n hx hb d_R_goesBefore_23 rfl (lv_at hl 5 rfl) ?_
  refine lv_iload hx hb d_R_goesBefore_24 (lv_at hl 6 rfl) ?_
  refine lv_iload hx hb d_R_goesBefore_26 (lv_at hl 7 rfl) ?_
  obtain ⟨v28, hc28, hres⟩ := zo_b hres
  refine vp_callSi (va_Run.run (va_runV (As := [.int a2, .int a3, .int a4]) (rest := []) ⟨hx, hb, hml, hown, hts⟩ (c_R_before l D (zRt cR) q cR ρ a2 a3 a4 v28 hc28) (cwV 3 hts (zg_V k_598 k_600 k_25 k_32 g_R_before) rfl rfl rfl ⟨rfl, hd_R_before⟩ ⟨Nat.le_of_ble_eq_true rfl, Nat.le_of_ble_eq_true rfl⟩) ⟨zro_b _, va_recv hK hP (q0 := 0) rfl rfl, zro_p hP hK hN _⟩ rfl rfl hl.1 rfl (lv_room (Nat.le_of_ble_eq_true rfl)) d_R_goesBefore_28 ⟨Nat.zero_le _, Nat.zero_le _⟩)) (fun r_28 er_28 => ?_)
  have er_28 := er_28.symm
  subst er_28
  refine lv_istore (lv' := [(8, .int v28), (7, .int v17), (6, .int v6), (0, .ref (q 0)), (1, .int a0), (2, .int a1), (3, .int a2), (4, .int a3), (5, .int a4)]) hx hb d_R_goesBefore_31 hl (by decide) rfl (fun ls hl => ?_)
  refine lv_iload hx hb d_R_goesBefore_33 (lv_at hl 2 rfl) ?_
  refine lv_if_eq (tgt := 56) hx hb d_R_goesBefore_35 (by decide) (fun c_35 => ?_) (fun c_35 => ?_)
  · have hres := zi_p c_35 hres
    refine lv_iload hx hb d_R_goesBefore_56 (lv_at hl 1 rfl) ?_
    refine lv_if_ne (tgt := 66) hx hb d_R_goesBefore_58 (by decide) (fun c_58 => ?_) (fun c_58 => ?_)
    · have hres := zi_n c_58 hres
      refine lv_iconst (v := 1) hx hb d_R_goesBefore_66 (by decide) ?_
      refine lv_goto (tgt := 71) hx hb d_R_goesBefore_67 (by decide) ?_
      obtain rfl := Option.some.inj hres
      exact W.zret (v := 1) (ty := .boolean) hx hb hr rfl (fun t ht hW => ⟨_, rfl, rfl, ht⟩) (fun _ hq => by cases hq) d_R_goesBefore_71
    · have hres := zi_p c_58 hres
      refine lv_iload hx hb d_R_goesBefore_61 (lv_at hl 0 rfl) ?_
      refine lv_if_eq (tgt := 70) hx hb d_R_goesBefore_63 (by decide) (fun c_63 => ?_) (fun c_63 => ?_)
      · have hres := zi_p c_63 hres
        refine lv_iconst (v := 0) hx hb d_R_goesBefore_70 (by decide) ?_
        obtain rfl := Option.some.inj hres
        exact W.zret (v := 0) (ty := .boolean) hx hb hr rfl (fun t ht hW => ⟨_, rfl, rfl, ht⟩) (fun _ hq => by cases hq) d_R_goesBefore_71
      · have hres := zi_n c_63 hres
        refine lv_iconst (v := 1) hx hb d_R_goesBefore_66 (by decide) ?_
        refine lv_goto (tgt := 71) hx hb d_R_goesBefore_67 (by decide) ?_
        obtain rfl := Option.some.inj hres
        exact W.zret (v := 1) (ty := .boolean) hx hb hr rfl (fun t ht hW => ⟨_, rfl, rfl, ht⟩) (fun _ hq => by cases hq) d_R_goesBefore_71
  · have hres := zi_n c_35 hres
    refine lv_iload hx hb d_R_goesBefore_38 (lv_at hl 1 rfl) ?_
    refine lv_if_eq (tgt := 52) hx hb d_R_goesBefore_40 (by decide) (fun c_40 => ?_) (fun c_40 => ?_)
    · have hres := zi_p c_40 hres
      refine lv_iconst (v := 0) hx hb d_R_goesBefore_52 (by decide) ?_
      refine lv_goto (tgt := 71) hx hb d_R_goesBefore_53 (by decide) ?_
      obtain rfl := Option.some.inj hres
      exact W.zret (v := 0) (ty := .boolean) hx hb hr rfl (fun t ht hW => ⟨_, rfl, rfl, ht⟩) (fun _ hq => by cases hq) d_R_goesBefore_71
    · have hres := zi_n c_40 hres
      refine lv_iload hx hb d_R_goesBefore_43 (lv_at hl 0 rfl) ?_
      refine lv_if_eq (tgt := 52) hx hb d_R_goesBefore_45 (by decide) (fun c_45 => ?_) (fun c_45 => ?_)
      · have hres := zi_p c_45 hres
        refine lv_iconst (v := 0) hx hb d_R_goesBefore_52 (by decide) ?_
        refine lv_goto (tgt := 71) hx hb d_R_goesBefore_53 (by decide) ?_
        obtain rfl := Option.some.inj hres
        exact W.zret (v := 0) (ty := .boolean) hx hb hr rfl (fun t ht hW => ⟨_, rfl, rfl, ht⟩) (fun _ hq => by cases hq) d_R_goesBefore_71
      · have hres := zi_n c_45 hres
        refine lv_iconst (v := 1) hx hb d_R_goesBefore_48 (by decide) ?_
        refine lv_goto (tgt := 71) hx hb d_R_goesBefore_49 (by decide) ?_
        obtain rfl := Option.some.inj hres
        exact W.zret (v := 1) (ty := .boolean) hx hb hr rfl (fun t ht hW => ⟨_, rfl, rfl, ht⟩) (fun _ hq => by cases hq) d_R_goesBefore_71
def f_R_hash (ρ : RSt) (a0 : Int32) : Option (Int64) :=
  Option.bind (f_R_isCommit ρ a0) (fun v2 =>
    if v2 = 0 then
      some 0
    else
      if zin a0 60 then
        some (ρ.2.1.2.1.1 a0.toNatClampNeg)
      else
        none)
set_option maxHeartbeats 4000000 in
set_option maxRecDepth 100000 in
theorem c_R_hash (l : Launch) (D : va_G) (tys : List (ClassId × FieldType)) (q : Nat → Nat) (cR : Nat → ClassId) (ρ : RSt) (a0 : Int32) (v : Int64) (hres : f_R_hash ρ a0 = some v) : Met l y_R_hash w_R_hash ({ frames := 1, cells := 0, slots := 0, locals := 21 } : Room) (va_Pc ([.ref (q 0), .int a0]) (zro D (zRt cR) (zR q cR ρ))) (vp_Sl (fun r : Int64 => r = v)) 0 0 (fun _ => False) := by
  refine Met.ofW (cc := b_R_hash) (maxL := 2) (ret := (some .long)) (by decide) rfl ?_
  intro p e s m args below meth c s₁ B hml hv
  obtain ⟨rfl, hP, hK, hN⟩ := hv
  have hx := B.exec
  have hb := B.bytes
  have hr := B.returns
  have hts : ∀ w ∈ zt, w.before ([.ref (q 0), .int a0].toArray) s = true := fun w h => atoms_spec (ws := w_R_hash) B.pre w (List.mem_cons_of_mem _ h)
  have hown : s.vm.findClass R_R = some m.cls := findClass_of_methodNamed B.named
  have hlocks := B.notSynchronized
  have hl := lv_entry ([.ref (q 0), .int a0]) (n := 2) (Nat.le_of_ble_eq_true rfl)
  rw [lg_entry_eq]
  generalize (lg_sl ([.ref (q 0), .int a0]) ++ List.replicate (2 - (lg_sl ([.ref (q 0), .int a0])).length) Slot.unset).toArray = ls at hl ⊢
  have hl : lv_has ls 2 [(0, .ref (q 0)), (1, .int a0)] := hl
  unfold f_R_hash at hres
  refine lv_aload_n hx hb d_R_hash_0 rfl (lv_at hl 0 rfl) ?_
  refine lv_iload_n hx hb d_R_hash_1 rfl (lv_at hl 1 rfl) ?_
  obtain ⟨v2, hc2, hres⟩ := zo_b hres
  refine vp_callSi (va_Run.run (va_runV (As := [.int a0]) (rest := []) ⟨hx, hb, hml, hown, hts⟩ (c_R_isCommit l D (zRt cR) q cR ρ a0 v2 hc2) (cwV 1 hts (zg_V k_551 k_553 k_16 k_32 g_R_isCommit) rfl rfl rfl ⟨rfl, hd_R_isCommit⟩ ⟨Nat.le_of_ble_eq_true rfl, Nat.le_of_ble_eq_true rfl⟩) ⟨zro_b _, va_recv hK hP (q0 := 0) rfl rfl, zro_p hP hK hN _⟩ rfl rfl hl.1 rfl (lv_room (Nat.le_of_ble_eq_true rfl)) d_R_hash_2 ⟨Nat.zero_le _, Nat.zero_le _⟩)) (fun r_2 er_2 => ?_)
  have er_2 := er_2.symm
  subst er_2
  refine lv_if_eq (tgt := 17) hx hb d_R_hash_5 (by decide) (fun c_5 => ?_) (fun c_5 => ?_)
  · have hres := zi_p c_5 hres
    refine lv_lconst (v := 0) hx hb d_R_hash_17 (by decide) ?_
    obtain rfl := Option.some.inj hres
    exact W.lret (v := 0) hx hb hr (fun t ht hW => ⟨_, rfl, rfl, ht⟩) (fun _ hq => by cases hq) d_R_hash_18
  · have hres := zi_n c_5 hres
    refine lv_aload_n hx hb d_R_hash_8 rfl (lv_at hl 0 rfl) ?_
    refine va_get (D := D) (ci := 4) (v := .ref (q 15)) (C := R_R) (T := T_R) (N := 23) hx hb hts in_R hown hK hP (0) rfl rfl 15 (by decide) (hts _ k_443) (fun _ h9 => h9) rfl d_R_hash_9 ?_
    refine lv_iload_n hx hb d_R_hash_12 rfl (lv_at hl 1 rfl) ?_
    by_cases ck_13 : zin a0 60
    · have hres := zi_p ck_13 hres
      refine va_lald hx hb hK hP 15 14 rfl rfl ck_13 d_R_hash_13 ?_
      refine lv_goto (tgt := 18) hx hb d_R_hash_14 (by decide) ?_
      obtain rfl := Option.some.inj hres
      exact W.lret (v := (ρ.2.1.2.1.1 a0.toNatClampNeg)) hx hb hr (fun t ht hW => ⟨_, rfl, rfl, ht⟩) (fun _ hq => by cases hq) d_R_hash_18
    · exact absurd (zi_n ck_13 hres) (by simp)
def J_R_hashOf_245 (ρ : RSt) (a0 : Int32) (v223 : Int64) (j245_s0 : Int64) : Option (Int64) :=
  Option.bind (f_R_mix v223 j245_s0) (fun v245 =>
    if zin a0 67 then
      Option.bind (f_R_mix v245 (ρ.1.2.2.1.1 a0.toNatClampNeg)) (fun v256 =>
        if zin a0 67 then
          Option.bind (f_R_mix v256 ((ρ.1.2.2.1.2 a0.toNatClampNeg).toInt64)) (fun v266 =>
            some v266)
        else
          none)
    else
      none)
def J_R_hashOf_223 (ρ : RSt) (a0 : Int32) (v204 : Int64) (j223_s0 : Int64) : Option (Int64) :=
  Option.bind (f_R_mix v204 j223_s0) (fun v223 =>
    if zin a0 67 then
      if (ρ.1.2.1.1.2 a0.toNatClampNeg) = 0 then
        J_R_hashOf_245 ρ a0 v223 0
      else
        if zin a0 67 then
          J_R_hashOf_245 ρ a0 v223 (ρ.1.2.1.2 a0.toNatClampNeg)
        else
          none
    else
      none)
def L_R_hashOf_157 (ρ : RSt) (a0 : Int32) : Nat → Int32 → Int64 → Option (Int32 × Int64)
  | 0, _, _ => none
  | n + 1, x157_6, x157_4 =>
    if x157_6 < 0 then
      some (x157_6, x157_4)
    else
      if zin ((8 * a0) + x157_6) 536 then
        L_R_hashOf_157 ρ a0 n (x157_6 + (-1)) (((32 * x157_4) + 1) + (ρ.1.2.1.1.1 ((8 * a0) + x157_6).toNatClampNeg).toInt64)
      else
        none
def J_R_hashOf_93 (ρ : RSt) (a0 : Int32) (j93_s0 : Int64) : Option (Int64) :=
  Option.bind (f_R_mix j93_s0 (a0.toInt64 + 1)) (fun v99 =>
    if zin a0 67 then
      Option.bind (f_R_mix v99 (ρ.1.1.1.1.1 a0.toNatClampNeg)) (fun v108 =>
        if zin a0 67 then
          Option.bind (f_R_mix v108 ((ρ.1.1.1.1.2 a0.toNatClampNeg).toInt64)) (fun v120 =>
            if zin a0 67 then
              Option.bind (f_R_mix v120 ((ρ.1.1.1.2 a0.toNatClampNeg).toInt64)) (fun v130 =>
                if zin a0 67 then
                  Option.bind (f_R_mix v130 ((ρ.1.1.2.1.1 a0.toNatClampNeg).toInt64)) (fun v140 =>
                    if zin a0 67 then
                      Option.bind (L_R_hashOf_157 ρ a0 zfuel ((ρ.1.1.2.2 a0.toNatClampNeg) - 1) 0) (fun w157 =>
                        if zin a0 67 then
                          Option.bind (f_R_mix v140 (ρ.1.1.2.1.2 a0.toNatClampNeg)) (fun v199 =>
                            Option.bind (f_R_mix v199 w157.2) (fun v204 =>
                              if zin a0 67 then
                                if (ρ.1.2.1.1.2 a0.toNatClampNeg) = 0 then
                                  J_R_hashOf_223 ρ a0 v204 0
                                else
                                  J_R_hashOf_223 ρ a0 v204 1
                              else
                                none))
                        else
                          none)
                    else
                      none)
                else
                  none)
            else
              none)
        else
          none)
    else
      none)
def J_R_hashOf_64 (ρ : RSt) (a0 : Int32) (j64_s0 : Int64) : Option (Int64) :=
  if zin a0 60 then
    if (ρ.2.1.1.1.2 a0.toNatClampNeg) < 0 then
      J_R_hashOf_93 ρ a0 j64_s0
    else
      if zin a0 60 then
        if zin (ρ.2.1.1.1.2 a0.toNatClampNeg) 60 then
          Option.bind (f_R_mix j64_s0 (ρ.2.1.2.1.1 (ρ.2.1.1.1.2 a0.toNatClampNeg).toNatClampNeg)) (fun v86 =>
            J_R_hashOf_93 ρ a0 v86)
        else
          none
      else
        none
  else
    none
def J_R_hashOf_31 (ρ : RSt) (a0 : Int32) (j17_s0 : Int64) (j31_s0 : Int64) : Option (Int64) :=
  Option.bind (f_R_mix (-3750763034362895579) (j17_s0 + j31_s0)) (fun v32 =>
    if zin a0 60 then
      if (ρ.2.1.1.1.1 a0.toNatClampNeg) < 0 then
        J_R_hashOf_64 ρ a0 v32
      else
        if zin a0 60 then
          if zin (ρ.2.1.1.1.1 a0.toNatClampNeg) 60 then
            Option.bind (f_R_mix v32 (ρ.2.1.2.1.1 (ρ.2.1.1.1.1 a0.toNatClampNeg).toNatClampNeg)) (fun v57 =>
              J_R_hashOf_64 ρ a0 v57)
          else
            none
        else
          none
    else
      none)
def J_R_hashOf_17 (ρ : RSt) (a0 : Int32) (j17_s0 : Int64) : Option (Int64) :=
  if zin a0 60 then
    if (ρ.2.1.1.1.2 a0.toNatClampNeg) < 0 then
      J_R_hashOf_31 ρ a0 j17_s0 0
    else
      J_R_hashOf_31 ρ a0 j17_s0 1
  else
    none
def f_R_hashOf (ρ : RSt) (a0 : Int32) : Option (Int64) :=
  if zin a0 60 then
    if (ρ.2.1.1.1.1 a0.toNatClampNeg) < 0 then
      J_R_hashOf_17 ρ a0 0
    else
      J_R_hashOf_17 ρ a0 1
  else
    none
set_option maxHeartbeats 4000000 in
set_option maxRecDepth 100000 in
theorem c_R_hashOf (l : Launch) (D : va_G) (tys : List (ClassId × FieldType)) (q : Nat → Nat) (cR : Nat → ClassId) (ρ : RSt) (a0 : Int32) (v : Int64) (hres : f_R_hashOf ρ a0 = some v) : Met l y_R_hashOf w_R_hashOf ({ frames := 1, cells := 0, slots := 0, locals := 26 } : Room) (va_Pc ([.ref (q 0), .int a0]) (zro D (zRt cR) (zR q cR ρ))) (vp_Sl (fun r : Int64 => r = v)) 0 0 (fun _ => False) := by
  refine Met.ofW (cc := b_R_hashOf) (maxL := 7) (ret := (some .long)) (by decide) rfl ?_
  intro p e s m args below meth c s₁ B hml hv
  obtain ⟨rfl, hP, hK, hN⟩ := hv
  have hx := B.exec
  have hb := B.bytes
  have hr := B.returns
  have hts : ∀ w ∈ zt, w.before ([.ref (q 0), .int a0].toArray) s = true := fun w h => atoms_spec (ws := w_R_hashOf) B.pre w (List.mem_cons_of_mem _ h)
  have hown : s.vm.findClass R_R = some m.cls := findClass_of_methodNamed B.named
  have hlocks := B.notSynchronized
  have hl := lv_entry ([.ref (q 0), .int a0]) (n := 7) (Nat.le_of_ble_eq_true rfl)
  rw [lg_entry_eq]
  generalize (lg_sl ([.ref (q 0), .int a0]) ++ List.replicate (7 - (lg_sl ([.ref (q 0), .int a0])).length) Slot.unset).toArray = ls at hl ⊢
  have hl : lv_has ls 7 [(0, .ref (q 0)), (1, .int a0)] := hl
  unfold f_R_hashOf at hres
  refine lv_ldc2 (v := (-3750763034362895579)) hx hb hown (hts _ k_532) d_R_hashOf_0 ?_
  refine lv_aload_n hx hb d_R_hashOf_3 rfl (lv_at hl 0 rfl) ?_
  refine va_get (D := D) (ci := 4) (v := .ref (q 12)) (C := R_R) (T := T_R) (N := 23) hx hb hts in_R hown hK hP (0) rfl rfl 12 (by decide) (hts _ k_440) (fun _ h9 => h9) rfl d_R_hashOf_4 ?_
  refine lv_iload_n hx hb d_R_hashOf_7 rfl (lv_at hl 1 rfl) ?_
  by_cases ck_8 : zin a0 60
  · have hres := zi_p ck_8 hres
    refine va_iald hx hb hK hP 12 11 rfl rfl ck_8 d_R_hashOf_8 ?_
    have hj17 : ∀ (j17_s0 : Int64) (ls : Array Slot), lv_has ls 7 [(0, .ref (q 0)), (1, .int a0)] → J_R_hashOf_17 ρ a0 j17_s0 = some v → W p l e (headSpec w_R_hashOf ({ frames := 1, cells := 0, slots := 0, locals := 26 } : Room)).room s m ([.ref (q 0), .int a0].toArray) below meth c s.heap [] 0 0 (MQ below (vp_Sl (fun r : Int64 => r = v)) ([.ref (q 0), .int a0].toArray) s 0 0 (fun _ => False)) (F0 m 17 ls [.long j17_s0, .long (-3750763034362895579)]) := by
      intro j17_s0 ls hl hres
      unfold J_R_hashOf_17 at hres
      refine lv_aload_n hx hb d_R_hashOf_17 rfl (lv_at hl 0 rfl) ?_
      refine va_get (D := D) (ci := 4) (v := .ref (q 13)) (C := R_R) (T := T_R) (N := 23) hx hb hts in_R hown hK hP (0) rfl rfl 13 (by decide) (hts _ k_441) (fun _ h9 => h9) rfl d_R_hashOf_18 ?_
      refine lv_iload_n hx hb d_R_hashOf_21 rfl (lv_at hl 1 rfl) ?_
      by_cases ck_22 : zin a0 60
      · have hres := zi_p ck_22 hres
        refine va_iald hx hb hK hP 13 12 rfl rfl ck_22 d_R_hashOf_22 ?_
        have hj31 : ∀ (j31_s0 : Int64) (ls : Array Slot), lv_has ls 7 [(0, .ref (q 0)), (1, .int a0)] → J_R_hashOf_31 ρ a0 j17_s0 j31_s0 = some v → W p l e (headSpec w_R_hashOf ({ frames := 1, cells := 0, slots := 0, locals := 26 } : Room)).room s m ([.ref (q 0), .int a0].toArray) below meth c s.heap [] 0 0 (MQ below (vp_Sl (fun r : Int64 => r = v)) ([.ref (q 0), .int a0].toArray) s 0 0 (fun _ => False)) (F0 m 31 ls [.long j31_s0, .long j17_s0, .long (-3750763034362895579)]) := by
          intro j31_s0 ls hl hres
          unfold J_R_hashOf_31 at hres
          refine lv_ladd hx hb d_R_hashOf_31 ?_
          obtain ⟨v32, hc32, hres⟩ := zo_b hres
          refine vp_callSl (va_Run.run (va_runS (As := [.long (-3750763034362895579), .long (j17_s0 + j31_s0)]) (rest := []) ⟨hx, hb, hml, hown, hts⟩ (c_R_mix l D (zRt cR) (-3750763034362895579) (j17_s0 + j31_s0) v32 hc32) (va_cwS 2 hts (zg_S k_533 k_534 k_32 g_R_mix) rfl rfl rfl hd_R_mix ⟨Nat.le_of_ble_eq_true rfl, Nat.le_of_ble_eq_true rfl⟩) ⟨zro_b _, zro_p va_Pnil hK hN _⟩ rfl rfl hl.1 rfl (lv_room (Nat.le_of_ble_eq_true rfl)) d_R_hashOf_32 ⟨Nat.zero_le _, Nat.zero_le _⟩)) (fun r_32 er_32 => ?_)
          have er_32 := er_32.symm
          subst er_32
          refine lv_lstore_n (lv' := [(2, .long v32), (0, .ref (q 0)), (1, .int a0)]) hx hb d_R_hashOf_35 rfl hl (by decide) rfl (fun ls hl => ?_)
          refine lv_aload_n hx hb d_R_hashOf_36 rfl (lv_at hl 1 rfl) ?_
          refine va_get (D := D) (ci := 4) (v := .ref (q 12)) (C := R_R) (T := T_R) (N := 23) hx hb hts in_R hown hK hP (0) rfl rfl 12 (by decide) (hts _ k_440) (fun _ h9 => h9) rfl d_R_hashOf_37 ?_
          refine lv_iload_n hx hb d_R_hashOf_40 rfl (lv_at hl 2 rfl) ?_
          by_cases ck_41 : zin a0 60
          · have hres := zi_p ck_41 hres
            refine va_iald hx hb hK hP 12 11 rfl rfl ck_41 d_R_hashOf_41 ?_
            have hj64 : ∀ (j64_s0 : Int64) (ls : Array Slot), lv_has ls 7 [(2, .long v32), (0, .ref (q 0)), (1, .int a0)] → J_R_hashOf_64 ρ a0 j64_s0 = some v → W p l e (headSpec w_R_hashOf ({ frames := 1, cells := 0, slots := 0, locals := 26 } : Room)).room s m ([.ref (q 0), .int a0].toArray) below meth c s.heap [] 0 0 (MQ below (vp_Sl (fun r : Int64 => r = v)) ([.ref (q 0), .int a0].toArray) s 0 0 (fun _ => False)) (F0 m 64 ls [.long j64_s0]) := by
              intro j64_s0 ls hl hres
              unfold J_R_hashOf_64 at hres
              refine lv_lstore_n (lv' := [(2, .long j64_s0), (0, .ref (q 0)), (1, .int a0)]) hx hb d_R_hashOf_64 rfl hl (by decide) rfl (fun ls hl => ?_)
              refine lv_aload_n hx hb d_R_hashOf_65 rfl (lv_at hl 1 rfl) ?_
              refine va_get (D := D) (ci := 4) (v := .ref (q 13)) (C := R_R) (T := T_R) (N := 23) hx hb hts in_R hown hK hP (0) rfl rfl 13 (by decide) (hts _ k_441) (fun _ h9 => h9) rfl d_R_hashOf_66 ?_
              refine lv_iload_n hx hb d_R_hashOf_69 rfl (lv_at hl 2 rfl) ?_
              by_cases ck_70 : zin a0 60
              · have hres := zi_p ck_70 hres
                refine va_iald hx hb hK hP 13 12 rfl rfl ck_70 d_R_hashOf_70 ?_
                have hj93 : ∀ (j93_s0 : Int64) (ls : Array Slot), lv_has ls 7 [(2, .long j64_s0), (0, .ref (q 0)), (1, .int a0)] → J_R_hashOf_93 ρ a0 j93_s0 = some v → W p l e (headSpec w_R_hashOf ({ frames := 1, cells := 0, slots := 0, locals := 26 } : Room)).room s m ([.ref (q 0), .int a0].toArray) below meth c s.heap [] 0 0 (MQ below (vp_Sl (fun r : Int64 => r = v)) ([.ref (q 0), .int a0].toArray) s 0 0 (fun _ => False)) (F0 m 93 ls [.long j93_s0]) := by
                  intro j93_s0 ls hl hres
                  unfold J_R_hashOf_93 at hres
                  refine lv_lstore_n (lv' := [(2, .long j93_s0), (0, .ref (q 0)), (1, .int a0)]) hx hb d_R_hashOf_93 rfl hl (by decide) rfl (fun ls hl => ?_)
                  refine lv_lload_n hx hb d_R_hashOf_94 rfl (lv_at hl 0 rfl) ?_
                  refine lv_iload_n hx hb d_R_hashOf_95 rfl (lv_at hl 2 rfl) ?_
                  refine lv_i2l (v := a0.toInt64) hx hb d_R_hashOf_96 rfl ?_
                  refine lv_lconst (v := 1) hx hb d_R_hashOf_97 (by decide) ?_
                  refine lv_ladd hx hb d_R_hashOf_98 ?_
                  obtain ⟨v99, hc99, hres⟩ := zo_b hres
                  refine vp_callSl (va_Run.run (va_runS (As := [.long j93_s0, .long (a0.toInt64 + 1)]) (rest := []) ⟨hx, hb, hml, hown, hts⟩ (c_R_mix l D (zRt cR) j93_s0 (a0.toInt64 + 1) v99 hc99) (va_cwS 2 hts (zg_S k_533 k_534 k_32 g_R_mix) rfl rfl rfl hd_R_mix ⟨Nat.le_of_ble_eq_true rfl, Nat.le_of_ble_eq_true rfl⟩) ⟨zro_b _, zro_p va_Pnil hK hN _⟩ rfl rfl hl.1 rfl (lv_room (Nat.le_of_ble_eq_true rfl)) d_R_hashOf_99 ⟨Nat.zero_le _, Nat.zero_le _⟩)) (fun r_99 er_99 => ?_)
                  have er_99 := er_99.symm
                  subst er_99
                  refine lv_aload_n hx hb d_R_hashOf_102 rfl (lv_at hl 1 rfl) ?_
                  refine va_get (D := D) (ci := 4) (v := .ref (q 1)) (C := R_R) (T := T_R) (N := 23) hx hb hts in_R hown hK hP (0) rfl rfl 0 (by decide) (hts _ k_428) (fun _ h9 => h9) rfl d_R_hashOf_103 ?_
                  refine lv_iload_n hx hb d_R_hashOf_106 rfl (lv_at hl 2 rfl) ?_
                  by_cases ck_107 : zin a0 67
                  · have hres := zi_p ck_107 hres
                    refine va_lald hx hb hK hP 1 0 rfl rfl ck_107 d_R_hashOf_107 ?_
                    obtain ⟨v108, hc108, hres⟩ := zo_b hres
                    refine vp_callSl (va_Run.run (va_runS (As := [.long v99, .long (ρ.1.1.1.1.1 a0.toNatClampNeg)]) (rest := []) ⟨hx, hb, hml, hown, hts⟩ (c_R_mix l D (zRt cR) v99 (ρ.1.1.1.1.1 a0.toNatClampNeg) v108 hc108) (va_cwS 2 hts (zg_S k_533 k_534 k_32 g_R_mix) rfl rfl rfl hd_R_mix ⟨Nat.le_of_ble_eq_true rfl, Nat.le_of_ble_eq_true rfl⟩) ⟨zro_b _, zro_p va_Pnil hK hN _⟩ rfl rfl hl.1 rfl (lv_room (Nat.le_of_ble_eq_true rfl)) d_R_hashOf_108 ⟨Nat.zero_le _, Nat.zero_le _⟩)) (fun r_108 er_108 => ?_)
                    have er_108 := er_108.symm
                    subst er_108
                    refine lv_lstore_n (lv' := [(2, .long v108), (0, .ref (q 0)), (1, .int a0)]) hx hb d_R_hashOf_111 rfl hl (by decide) rfl (fun ls hl => ?_)
                    refine lv_lload_n hx hb d_R_hashOf_112 rfl (lv_at hl 0 rfl) ?_
                    refine lv_aload_n hx hb d_R_hashOf_113 rfl (lv_at hl 1 rfl) ?_
                    refine va_get (D := D) (ci := 4) (v := .ref (q 2)) (C := R_R) (T := T_R) (N := 23) hx hb hts in_R hown hK hP (0) rfl rfl 1 (by decide) (hts _ k_429) (fun _ h9 => h9) rfl d_R_hashOf_114 ?_
                    refine lv_iload_n hx hb d_R_hashOf_117 rfl (lv_at hl 2 rfl) ?_
                    by_cases ck_118 : zin a0 67
                    · have hres := zi_p ck_118 hres
                      refine va_iald hx hb hK hP 2 1 rfl rfl ck_118 d_R_hashOf_118 ?_
                      refine lv_i2l (v := (ρ.1.1.1.1.2 a0.toNatClampNeg).toInt64) hx hb d_R_hashOf_119 rfl ?_
                      obtain ⟨v120, hc120, hres⟩ := zo_b hres
                      refine vp_callSl (va_Run.run (va_runS (As := [.long v108, .long ((ρ.1.1.1.1.2 a0.toNatClampNeg).toInt64)]) (rest := []) ⟨hx, hb, hml, hown, hts⟩ (c_R_mix l D (zRt cR) v108 ((ρ.1.1.1.1.2 a0.toNatClampNeg).toInt64) v120 hc120) (va_cwS 2 hts (zg_S k_533 k_534 k_32 g_R_mix) rfl rfl rfl hd_R_mix ⟨Nat.le_of_ble_eq_true rfl, Nat.le_of_ble_eq_true rfl⟩) ⟨zro_b _, zro_p va_Pnil hK hN _⟩ rfl rfl hl.1 rfl (lv_room (Nat.le_of_ble_eq_true rfl)) d_R_hashOf_120 ⟨Nat.zero_le _, Nat.zero_le _⟩)) (fun r_120 er_120 => ?_)
                      have er_120 := er_120.symm
                      subst er_120
                      refine lv_aload_n hx hb d_R_hashOf_123 rfl (lv_at hl 1 rfl) ?_
                      refine va_get (D := D) (ci := 4) (v := .ref (q 3)) (C := R_R) (T := T_R) (N := 23) hx hb hts in_R hown hK hP (0) rfl rfl 2 (by decide) (hts _ k_430) (fun _ h9 => h9) rfl d_R_hashOf_124 ?_
                      refine lv_iload_n hx hb d_R_hashOf_127 rfl (lv_at hl 2 rfl) ?_
                      by_cases ck_128 : zin a0 67
                      · have hres := zi_p ck_128 hres
                        refine va_iald hx hb hK hP 3 2 rfl rfl ck_128 d_R_hashOf_128 ?_
                        refine lv_i2l (v := (ρ.1.1.1.2 a0.toNatClampNeg).toInt64) hx hb d_R_hashOf_129 rfl ?_
                        obtain ⟨v130, hc130, hres⟩ := zo_b hres
                        refine vp_callSl (va_Run.run (va_runS (As := [.long v120, .long ((ρ.1.1.1.2 a0.toNatClampNeg).toInt64)]) (rest := []) ⟨hx, hb, hml, hown, hts⟩ (c_R_mix l D (zRt cR) v120 ((ρ.1.1.1.2 a0.toNatClampNeg).toInt64) v130 hc130) (va_cwS 2 hts (zg_S k_533 k_534 k_32 g_R_mix) rfl rfl rfl hd_R_mix ⟨Nat.le_of_ble_eq_true rfl, Nat.le_of_ble_eq_true rfl⟩) ⟨zro_b _, zro_p va_Pnil hK hN _⟩ rfl rfl hl.1 rfl (lv_room (Nat.le_of_ble_eq_true rfl)) d_R_hashOf_130 ⟨Nat.zero_le _, Nat.zero_le _⟩)) (fun r_130 er_130 => ?_)
                        have er_130 := er_130.symm
                        subst er_130
                        refine lv_aload_n hx hb d_R_hashOf_133 rfl (lv_at hl 1 rfl) ?_
                        refine va_get (D := D) (ci := 4) (v := .ref (q 4)) (C := R_R) (T := T_R) (N := 23) hx hb hts in_R hown hK hP (0) rfl rfl 3 (by decide) (hts _ k_431) (fun _ h9 => h9) rfl d_R_hashOf_134 ?_
                        refine lv_iload_n hx hb d_R_hashOf_137 rfl (lv_at hl 2 rfl) ?_
                        by_cases ck_138 : zin a0 67
                        · have hres := zi_p ck_138 hres
                          refine va_iald hx hb hK hP 4 3 rfl rfl ck_138 d_R_hashOf_138 ?_
                          refine lv_i2l (v := (ρ.1.1.2.1.1 a0.toNatClampNeg).toInt64) hx hb d_R_hashOf_139 rfl ?_
                          obtain ⟨v140, hc140, hres⟩ := zo_b hres
                          refine vp_callSl (va_Run.run (va_runS (As := [.long v130, .long ((ρ.1.1.2.1.1 a0.toNatClampNeg).toInt64)]) (rest := []) ⟨hx, hb, hml, hown, hts⟩ (c_R_mix l D (zRt cR) v130 ((ρ.1.1.2.1.1 a0.toNatClampNeg).toInt64) v140 hc140) (va_cwS 2 hts (zg_S k_533 k_534 k_32 g_R_mix) rfl rfl rfl hd_R_mix ⟨Nat.le_of_ble_eq_true rfl, Nat.le_of_ble_eq_true rfl⟩) ⟨zro_b _, zro_p va_Pnil hK hN _⟩ rfl rfl hl.1 rfl (lv_room (Nat.le_of_ble_eq_true rfl)) d_R_hashOf_140 ⟨Nat.zero_le _, Nat.zero_le _⟩)) (fun r_140 er_140 => ?_)
                          have er_140 := er_140.symm
                          subst er_140
                          refine lv_lstore_n (lv' := [(2, .long v140), (0, .ref (q 0)), (1, .int a0)]) hx hb d_R_hashOf_143 rfl hl (by decide) rfl (fun ls hl => ?_)
                          refine lv_lconst (v := 0) hx hb d_R_hashOf_144 (by decide) ?_
                          refine lv_lstore (lv' := [(4, .long 0), (2, .long v140), (0, .ref (q 0)), (1, .int a0)]) hx hb d_R_hashOf_145 hl (by decide) rfl (fun ls hl => ?_)
                          refine lv_aload_n hx hb d_R_hashOf_147 rfl (lv_at hl 2 rfl) ?_
                          refine va_get (D := D) (ci := 4) (v := .ref (q 6)) (C := R_R) (T := T_R) (N := 23) hx hb hts in_R hown hK hP (0) rfl rfl 5 (by decide) (hts _ k_433) (fun _ h9 => h9) rfl d_R_hashOf_148 ?_
                          refine lv_iload_n hx hb d_R_hashOf_151 rfl (lv_at hl 3 rfl) ?_
                          by_cases ck_152 : zin a0 67
                          · have hres := zi_p ck_152 hres
                            refine va_iald hx hb hK hP 6 5 rfl rfl ck_152 d_R_hashOf_152 ?_
                            refine lv_iconst (v := 1) hx hb d_R_hashOf_153 (by decide) ?_
                            refine lv_isub hx hb d_R_hashOf_154 ?_
                            refine lv_istore (lv' := [(6, .int ((ρ.1.1.2.2 a0.toNatClampNeg) - 1)), (4, .long 0), (2, .long v140), (0, .ref (q 0)), (1, .int a0)]) hx hb d_R_hashOf_155 hl (by decide) rfl (fun ls hl => ?_)
                            obtain ⟨w157, hL157, hres⟩ := zo_b hres
                            have hk157 : ∀ (ls : Array Slot), lv_has ls 7 [(6, .int w157.1), (4, .long w157.2), (2, .long v140), (0, .ref (q 0)), (1, .int a0)] → W p l e (headSpec w_R_hashOf ({ frames := 1, cells := 0, slots := 0, locals := 26 } : Room)).room s m ([.ref (q 0), .int a0].toArray) below meth c s.heap [] 0 0 (MQ below (vp_Sl (fun r : Int64 => r = v)) ([.ref (q 0), .int a0].toArray) s 0 0 (fun _ => False)) (F0 m 192 ls []) := by
                              intro ls hl
                              refine lv_lload_n hx hb d_R_hashOf_192 rfl (lv_at hl 2 rfl) ?_
                              refine lv_aload_n hx hb d_R_hashOf_193 rfl (lv_at hl 3 rfl) ?_
                              refine va_get (D := D) (ci := 4) (v := .ref (q 5)) (C := R_R) (T := T_R) (N := 23) hx hb hts in_R hown hK hP (0) rfl rfl 4 (by decide) (hts _ k_432) (fun _ h9 => h9) rfl d_R_hashOf_194 ?_
                              refine lv_iload_n hx hb d_R_hashOf_197 rfl (lv_at hl 4 rfl) ?_
                              by_cases ck_198 : zin a0 67
                              · have hres := zi_p ck_198 hres
                                refine va_lald hx hb hK hP 5 4 rfl rfl ck_198 d_R_hashOf_198 ?_
                                obtain ⟨v199, hc199, hres⟩ := zo_b hres
                                refine vp_callSl (va_Run.run (va_runS (As := [.long v140, .long (ρ.1.1.2.1.2 a0.toNatClampNeg)]) (rest := []) ⟨hx, hb, hml, hown, hts⟩ (c_R_mix l D (zRt cR) v140 (ρ.1.1.2.1.2 a0.toNatClampNeg) v199 hc199) (va_cwS 2 hts (zg_S k_533 k_534 k_32 g_R_mix) rfl rfl rfl hd_R_mix ⟨Nat.le_of_ble_eq_true rfl, Nat.le_of_ble_eq_true rfl⟩) ⟨zro_b _, zro_p va_Pnil hK hN _⟩ rfl rfl hl.1 rfl (lv_room (Nat.le_of_ble_eq_true rfl)) d_R_hashOf_199 ⟨Nat.zero_le _, Nat.zero_le _⟩)) (fun r_199 er_199 => ?_)
                                have er_199 := er_199.symm
                                subst er_199
                                refine lv_lload hx hb d_R_hashOf_202 (lv_at hl 1 rfl) ?_
                                obtain ⟨v204, hc204, hres⟩ := zo_b hres
                                refine vp_callSl (va_Run.run (va_runS (As := [.long v199, .long w157.2]) (rest := []) ⟨hx, hb, hml, hown, hts⟩ (c_R_mix l D (zRt cR) v199 w157.2 v204 hc204) (va_cwS 2 hts (zg_S k_533 k_534 k_32 g_R_mix) rfl rfl rfl hd_R_mix ⟨Nat.le_of_ble_eq_true rfl, Nat.le_of_ble_eq_true rfl⟩) ⟨zro_b _, zro_p va_Pnil hK hN _⟩ rfl rfl hl.1 rfl (lv_room (Nat.le_of_ble_eq_true rfl)) d_R_hashOf_204 ⟨Nat.zero_le _, Nat.zero_le _⟩)) (fun r_204 er_204 => ?_)
                                have er_204 := er_204.symm
                                subst er_204
                                refine lv_lstore_n (lv' := [(2, .long v204), (6, .int w157.1), (4, .long w157.2), (0, .ref (q 0)), (1, .int a0)]) hx hb d_R_hashOf_207 rfl hl (by decide) rfl (fun ls hl => ?_)
                                refine lv_lload_n hx hb d_R_hashOf_208 rfl (lv_at hl 0 rfl) ?_
                                refine lv_aload_n hx hb d_R_hashOf_209 rfl (lv_at hl 3 rfl) ?_
                                refine va_get (D := D) (ci := 4) (v := .ref (q 8)) (C := R_R) (T := T_R) (N := 23) hx hb hts in_R hown hK hP (0) rfl rfl 7 (by decide) (hts _ k_435) (fun _ h9 => h9) rfl d_R_hashOf_210 ?_
                                refine lv_iload_n hx hb d_R_hashOf_213 rfl (lv_at hl 4 rfl) ?_
                                by_cases ck_214 : zin a0 67
                                · have hres := zi_p ck_214 hres
                                  refine va_zald hx hb hK hP 8 7 rfl rfl ck_214 d_R_hashOf_214 ?_
                                  have hj223 : ∀ (j223_s0 : Int64) (ls : Array Slot), lv_has ls 7 [(2, .long v204), (6, .int w157.1), (4, .long w157.2), (0, .ref (q 0)), (1, .int a0)] → J_R_hashOf_223 ρ a0 v204 j223_s0 = some v → W p l e (headSpec w_R_hashOf ({ frames := 1, cells := 0, slots := 0, locals := 26 } : Room)).room s m ([.ref (q 0), .int a0].toArray) below meth c s.heap [] 0 0 (MQ below (vp_Sl (fun r : Int64 => r = v)) ([.ref (q 0), .int a0].toArray) s 0 0 (fun _ => False)) (F0 m 223 ls [.long j223_s0, .long v204]) := by
                                    intro j223_s0 ls hl hres
                                    unfold J_R_hashOf_223 at hres
                                    obtain ⟨v223, hc223, hres⟩ := zo_b hres
                                    refine vp_callSl (va_Run.run (va_runS (As := [.long v204, .long j223_s0]) (rest := []) ⟨hx, hb, hml, hown, hts⟩ (c_R_mix l D (zRt cR) v204 j223_s0 v223 hc223) (va_cwS 2 hts (zg_S k_533 k_534 k_32 g_R_mix) rfl rfl rfl hd_R_mix ⟨Nat.le_of_ble_eq_true rfl, Nat.le_of_ble_eq_true rfl⟩) ⟨zro_b _, zro_p va_Pnil hK hN _⟩ rfl rfl hl.1 rfl (lv_room (Nat.le_of_ble_eq_true rfl)) d_R_hashOf_223 ⟨Nat.zero_le _, Nat.zero_le _⟩)) (fun r_223 er_223 => ?_)
                                    have er_223 := er_223.symm
                                    subst er_223
                                    refine lv_aload_n hx hb d_R_hashOf_226 rfl (lv_at hl 3 rfl) ?_
                                    refine va_get (D := D) (ci := 4) (v := .ref (q 8)) (C := R_R) (T := T_R) (N := 23) hx hb hts in_R hown hK hP (0) rfl rfl 7 (by decide) (hts _ k_435) (fun _ h9 => h9) rfl d_R_hashOf_227 ?_
                                    refine lv_iload_n hx hb d_R_hashOf_230 rfl (lv_at hl 4 rfl) ?_
                                    by_cases ck_231 : zin a0 67
                                    · have hres := zi_p ck_231 hres
                                      refine va_zald hx hb hK hP 8 7 rfl rfl ck_231 d_R_hashOf_231 ?_
                                      have hj245 : ∀ (j245_s0 : Int64) (ls : Array Slot), lv_has ls 7 [(2, .long v204), (6, .int w157.1), (4, .long w157.2), (0, .ref (q 0)), (1, .int a0)] → J_R_hashOf_245 ρ a0 v223 j245_s0 = some v → W p l e (headSpec w_R_hashOf ({ frames := 1, cells := 0, slots := 0, locals := 26 } : Room)).room s m ([.ref (q 0), .int a0].toArray) below meth c s.heap [] 0 0 (MQ below (vp_Sl (fun r : Int64 => r = v)) ([.ref (q 0), .int a0].toArray) s 0 0 (fun _ => False)) (F0 m 245 ls [.long j245_s0, .long v223]) := by
                                        intro j245_s0 ls hl hres
                                        unfold J_R_hashOf_245 at hres
                                        obtain ⟨v245, hc245, hres⟩ := zo_b hres
                                        refine vp_callSl (va_Run.run (va_runS (As := [.long v223, .long j245_s0]) (rest := []) ⟨hx, hb, hml, hown, hts⟩ (c_R_mix l D (zRt cR) v223 j245_s0 v245 hc245) (va_cwS 2 hts (zg_S k_533 k_534 k_32 g_R_mix) rfl rfl rfl hd_R_mix ⟨Nat.le_of_ble_eq_true rfl, Nat.le_of_ble_eq_true rfl⟩) ⟨zro_b _, zro_p va_Pnil hK hN _⟩ rfl rfl hl.1 rfl (lv_room (Nat.le_of_ble_eq_true rfl)) d_R_hashOf_245 ⟨Nat.zero_le _, Nat.zero_le _⟩)) (fun r_245 er_245 => ?_)
                                        have er_245 := er_245.symm
                                        subst er_245
                                        refine lv_lstore_n (lv' := [(2, .long v245), (6, .int w157.1), (4, .long w157.2), (0, .ref (q 0)), (1, .int a0)]) hx hb d_R_hashOf_248 rfl hl (by decide) rfl (fun ls hl => ?_)
                                        refine lv_lload_n hx hb d_R_hashOf_249 rfl (lv_at hl 0 rfl) ?_
                                        refine lv_aload_n hx hb d_R_hashOf_250 rfl (lv_at hl 3 rfl) ?_
                                        refine va_get (D := D) (ci := 4) (v := .ref (q 10)) (C := R_R) (T := T_R) (N := 23) hx hb hts in_R hown hK hP (0) rfl rfl 9 (by decide) (hts _ k_437) (fun _ h9 => h9) rfl d_R_hashOf_251 ?_
                                        refine lv_iload_n hx hb d_R_hashOf_254 rfl (lv_at hl 4 rfl) ?_
                                        by_cases ck_255 : zin a0 67
                                        · have hres := zi_p ck_255 hres
                                          refine va_lald hx hb hK hP 10 9 rfl rfl ck_255 d_R_hashOf_255 ?_
                                          obtain ⟨v256, hc256, hres⟩ := zo_b hres
                                          refine vp_callSl (va_Run.run (va_runS (As := [.long v245, .long (ρ.1.2.2.1.1 a0.toNatClampNeg)]) (rest := []) ⟨hx, hb, hml, hown, hts⟩ (c_R_mix l D (zRt cR) v245 (ρ.1.2.2.1.1 a0.toNatClampNeg) v256 hc256) (va_cwS 2 hts (zg_S k_533 k_534 k_32 g_R_mix) rfl rfl rfl hd_R_mix ⟨Nat.le_of_ble_eq_true rfl, Nat.le_of_ble_eq_true rfl⟩) ⟨zro_b _, zro_p va_Pnil hK hN _⟩ rfl rfl hl.1 rfl (lv_room (Nat.le_of_ble_eq_true rfl)) d_R_hashOf_256 ⟨Nat.zero_le _, Nat.zero_le _⟩)) (fun r_256 er_256 => ?_)
                                          have er_256 := er_256.symm
                                          subst er_256
                                          refine lv_aload_n hx hb d_R_hashOf_259 rfl (lv_at hl 3 rfl) ?_
                                          refine va_get (D := D) (ci := 4) (v := .ref (q 11)) (C := R_R) (T := T_R) (N := 23) hx hb hts in_R hown hK hP (0) rfl rfl 10 (by decide) (hts _ k_438) (fun _ h9 => h9) rfl d_R_hashOf_260 ?_
                                          refine lv_iload_n hx hb d_R_hashOf_263 rfl (lv_at hl 4 rfl) ?_
                                          by_cases ck_264 : zin a0 67
                                          · have hres := zi_p ck_264 hres
                                            refine va_iald hx hb hK hP 11 10 rfl rfl ck_264 d_R_hashOf_264 ?_
                                            refine lv_i2l (v := (ρ.1.2.2.1.2 a0.toNatClampNeg).toInt64) hx hb d_R_hashOf_265 rfl ?_
                                            obtain ⟨v266, hc266, hres⟩ := zo_b hres
                                            refine vp_callSl (va_Run.run (va_runS (As := [.long v256, .long ((ρ.1.2.2.1.2 a0.toNatClampNeg).toInt64)]) (rest := []) ⟨hx, hb, hml, hown, hts⟩ (c_R_mix l D (zRt cR) v256 ((ρ.1.2.2.1.2 a0.toNatClampNeg).toInt64) v266 hc266) (va_cwS 2 hts (zg_S k_533 k_534 k_32 g_R_mix) rfl rfl rfl hd_R_mix ⟨Nat.le_of_ble_eq_true rfl, Nat.le_of_ble_eq_true rfl⟩) ⟨zro_b _, zro_p va_Pnil hK hN _⟩ rfl rfl hl.1 rfl (lv_room (Nat.le_of_ble_eq_true rfl)) d_R_hashOf_266 ⟨Nat.zero_le _, Nat.zero_le _⟩)) (fun r_266 er_266 => ?_)
                                            have er_266 := er_266.symm
                                            subst er_266
                                            obtain rfl := Option.some.inj hres
                                            exact W.lret (v := v266) hx hb hr (fun t ht hW => ⟨_, rfl, rfl, ht⟩) (fun _ hq => by cases hq) d_R_hashOf_269
                                          · exact absurd (zi_n ck_264 hres) (by simp)
                                        · exact absurd (zi_n ck_255 hres) (by simp)
                                      refine lv_if_eq (tgt := 244) hx hb d_R_hashOf_232 (by decide) (fun c_232 => ?_) (fun c_232 => ?_)
                                      · have hres := zi_p c_232 hres
                                        refine lv_lconst (v := 0) hx hb d_R_hashOf_244 (by decide) ?_
                                        exact hj245 0 ls (lv_sub hl [0, 1, 2, 3, 4] rfl) hres
                                      · have hres := zi_n c_232 hres
                                        refine lv_aload_n hx hb d_R_hashOf_235 rfl (lv_at hl 3 rfl) ?_
                                        refine va_get (D := D) (ci := 4) (v := .ref (q 9)) (C := R_R) (T := T_R) (N := 23) hx hb hts in_R hown hK hP (0) rfl rfl 8 (by decide) (hts _ k_436) (fun _ h9 => h9) rfl d_R_hashOf_236 ?_
                                        refine lv_iload_n hx hb d_R_hashOf_239 rfl (lv_at hl 4 rfl) ?_
                                        by_cases ck_240 : zin a0 67
                                        · have hres := zi_p ck_240 hres
                                          refine va_lald hx hb hK hP 9 8 rfl rfl ck_240 d_R_hashOf_240 ?_
                                          refine lv_goto (tgt := 245) hx hb d_R_hashOf_241 (by decide) ?_
                                          exact hj245 (ρ.1.2.1.2 a0.toNatClampNeg) ls (lv_sub hl [0, 1, 2, 3, 4] rfl) hres
                                        · exact absurd (zi_n ck_240 hres) (by simp)
                                    · exact absurd (zi_n ck_231 hres) (by simp)
                                  refine lv_if_eq (tgt := 222) hx hb d_R_hashOf_215 (by decide) (fun c_215 => ?_) (fun c_215 => ?_)
                                  · have hres := zi_p c_215 hres
                                    refine lv_lconst (v := 0) hx hb d_R_hashOf_222 (by decide) ?_
                                    exact hj223 0 ls (lv_sub hl [0, 1, 2, 3, 4] rfl) hres
                                  · have hres := zi_n c_215 hres
                                    refine lv_lconst (v := 1) hx hb d_R_hashOf_218 (by decide) ?_
                                    refine lv_goto (tgt := 223) hx hb d_R_hashOf_219 (by decide) ?_
                                    exact hj223 1 ls (lv_sub hl [0, 1, 2, 3, 4] rfl) hres
                                · exact absurd (zi_n ck_214 hres) (by simp)
                              · exact absurd (zi_n ck_198 hres) (by simp)
                            have hloop157 : ∀ (n : Nat) (x157_6 : Int32) (x157_4 : Int64) (ls : Array Slot), lv_has ls 7 [(6, .int x157_6), (4, .long x157_4), (2, .long v140), (0, .ref (q 0)), (1, .int a0)] → L_R_hashOf_157 ρ a0 n x157_6 x157_4 = some w157 → W p l e (headSpec w_R_hashOf ({ frames := 1, cells := 0, slots := 0, locals := 26 } : Room)).room s m ([.ref (q 0), .int a0].toArray) below meth c s.heap [] 0 0 (MQ below (vp_Sl (fun r : Int64 => r = v)) ([.ref (q 0), .int a0].toArray) s 0 0 (fun _ => False)) (F0 m 157 ls []) := by
                              intro n
                              induction n with
                              | zero => intro x157_6 x157_4 ls hl hL157; cases hL157
                              | succ n ih =>
                                intro x157_6 x157_4 ls hl hL157
                                rw [L_R_hashOf_157] at hL157
                                refine lv_iload hx hb d_R_hashOf_157 (lv_at hl 0 rfl) ?_
                                refine lv_if_lt (tgt := 192) hx hb d_R_hashOf_159 (by decide) (fun c_159 => ?_) (fun c_159 => ?_)
                                · have hL157 := zi_p c_159 hL157
                                  obtain rfl := Option.some.inj hL157
                                  exact hk157 ls (lv_sub hl [0, 1, 2, 3, 4] rfl)
                                · have hL157 := zi_n c_159 hL157
                                  refine lv_ldc2 (v := 32) hx hb hown (hts _ k_538) d_R_hashOf_162 ?_
                                  refine lv_lload hx hb d_R_hashOf_165 (lv_at hl 1 rfl) ?_
                                  refine lv_lmul hx hb d_R_hashOf_167 ?_
                                  refine lv_lconst (v := 1) hx hb d_R_hashOf_168 (by decide) ?_
                                  refine lv_ladd hx hb d_R_hashOf_169 ?_
                                  refine lv_aload_n hx hb d_R_hashOf_170 rfl (lv_at hl 3 rfl) ?_
                                  refine va_get (D := D) (ci := 4) (v := .ref (q 7)) (C := R_R) (T := T_R) (N := 23) hx hb hts in_R hown hK hP (0) rfl rfl 6 (by decide) (hts _ k_434) (fun _ h9 => h9) rfl d_R_hashOf_171 ?_
                                  refine lv_bipush (v := 8) hx hb d_R_hashOf_174 (by decide) ?_
                                  refine lv_iload_n hx hb d_R_hashOf_176 rfl (lv_at hl 4 rfl) ?_
                                  refine lv_imul hx hb d_R_hashOf_177 ?_
                                  refine lv_iload hx hb d_R_hashOf_178 (lv_at hl 0 rfl) ?_
                                  refine lv_iadd hx hb d_R_hashOf_180 ?_
                                  by_cases ck_181 : zin ((8 * a0) + x157_6) 536
                                  · have hL157 := zi_p ck_181 hL157
                                    refine va_iald hx hb hK hP 7 6 rfl rfl ck_181 d_R_hashOf_181 ?_
                                    refine lv_i2l (v := (ρ.1.2.1.1.1 ((8 * a0) + x157_6).toNatClampNeg).toInt64) hx hb d_R_hashOf_182 rfl ?_
                                    refine lv_ladd hx hb d_R_hashOf_183 ?_
                                    refine lv_lstore (lv' := [(4, .long (((32 * x157_4) + 1) + (ρ.1.2.1.1.1 ((8 * a0) + x157_6).toNatClampNeg).toInt64)), (6, .int x157_6), (2, .long v140), (0, .ref (q 0)), (1, .int a0)]) hx hb d_R_hashOf_184 hl (by decide) rfl (fun ls hl => ?_)
                                    refine lv_iinc (v := (x157_6 + (-1))) (lv' := [(6, .int (x157_6 + (-1))), (4, .long (((32 * x157_4) + 1) + (ρ.1.2.1.1.1 ((8 * a0) + x157_6).toNatClampNeg).toInt64)), (2, .long v140), (0, .ref (q 0)), (1, .int a0)]) hx hb d_R_hashOf_186 hl (k := 1) rfl rfl (by decide) rfl (fun ls hl => ?_)
                                    refine lv_goto (tgt := 157) hx hb d_R_hashOf_189 (by decide) ?_
                                    exact ih (x157_6 + (-1)) (((32 * x157_4) + 1) + (ρ.1.2.1.1.1 ((8 * a0) + x157_6).toNatClampNeg).toInt64) ls (lv_sub hl [0, 1, 2, 3, 4] rfl) hL157
                                  · exact absurd (zi_n ck_181 hL157) (by simp)
                            exact hloop157 zfuel ((ρ.1.1.2.2 a0.toNatClampNeg) - 1) 0 ls (lv_sub hl [0, 1, 2, 3, 4] rfl) hL157
                          · exact absurd (zi_n ck_152 hres) (by simp)
                        · exact absurd (zi_n ck_138 hres) (by simp)
                      · exact absurd (zi_n ck_128 hres) (by simp)
                    · exact absurd (zi_n ck_118 hres) (by simp)
                  · exact absurd (zi_n ck_107 hres) (by simp)
                refine lv_if_lt (tgt := 92) hx hb d_R_hashOf_71 (by decide) (fun c_71 => ?_) (fun c_71 => ?_)
                · have hres := zi_p c_71 hres
                  refine lv_lload_n hx hb d_R_hashOf_92 rfl (lv_at hl 0 rfl) ?_
                  exact hj93 j64_s0 ls (lv_sub hl [0, 1, 2] rfl) hres
                · have hres := zi_n c_71 hres
                  refine lv_lload_n hx hb d_R_hashOf_74 rfl (lv_at hl 0 rfl) ?_
                  refine lv_aload_n hx hb d_R_hashOf_75 rfl (lv_at hl 1 rfl) ?_
                  refine va_get (D := D) (ci := 4) (v := .ref (q 15)) (C := R_R) (T := T_R) (N := 23) hx hb hts in_R hown hK hP (0) rfl rfl 15 (by decide) (hts _ k_443) (fun _ h9 => h9) rfl d_R_hashOf_76 ?_
                  refine lv_aload_n hx hb d_R_hashOf_79 rfl (lv_at hl 1 rfl) ?_
                  refine va_get (D := D) (ci := 4) (v := .ref (q 13)) (C := R_R) (T := T_R) (N := 23) hx hb hts in_R hown hK hP (0) rfl rfl 13 (by decide) (hts _ k_441) (fun _ h9 => h9) rfl d_R_hashOf_80 ?_
                  refine lv_iload_n hx hb d_R_hashOf_83 rfl (lv_at hl 2 rfl) ?_
                  by_cases ck_84 : zin a0 60
                  · have hres := zi_p ck_84 hres
                    refine va_iald hx hb hK hP 13 12 rfl rfl ck_84 d_R_hashOf_84 ?_
                    by_cases ck_85 : zin (ρ.2.1.1.1.2 a0.toNatClampNeg) 60
                    · have hres := zi_p ck_85 hres
                      refine va_lald hx hb hK hP 15 14 rfl rfl ck_85 d_R_hashOf_85 ?_
                      obtain ⟨v86, hc86, hres⟩ := zo_b hres
                      refine vp_callSl (va_Run.run (va_runS (As := [.long j64_s0, .long (ρ.2.1.2.1.1 (ρ.2.1.1.1.2 a0.toNatClampNeg).toNatClampNeg)]) (rest := []) ⟨hx, hb, hml, hown, hts⟩ (c_R_mix l D (zRt cR) j64_s0 (ρ.2.1.2.1.1 (ρ.2.1.1.1.2 a0.toNatClampNeg).toNatClampNeg) v86 hc86) (va_cwS 2 hts (zg_S k_533 k_534 k_32 g_R_mix) rfl rfl rfl hd_R_mix ⟨Nat.le_of_ble_eq_true rfl, Nat.le_of_ble_eq_true rfl⟩) ⟨zro_b _, zro_p va_Pnil hK hN _⟩ rfl rfl hl.1 rfl (lv_room (Nat.le_of_ble_eq_true rfl)) d_R_hashOf_86 ⟨Nat.zero_le _, Nat.zero_le _⟩)) (fun r_86 er_86 => ?_)
                      have er_86 := er_86.symm
                      subst er_86
                      refine lv_goto (tgt := 93) hx hb d_R_hashOf_89 (by decide) ?_
                      exact hj93 v86 ls (lv_sub hl [0, 1, 2] rfl) hres
                    · exact absurd (zi_n ck_85 hres) (by simp)
                  · exact absurd (zi_n ck_84 hres) (by simp)
              · exact absurd (zi_n ck_70 hres) (by simp)
            refine lv_if_lt (tgt := 63) hx hb d_R_hashOf_42 (by decide) (fun c_42 => ?_) (fun c_42 => ?_)
            · have hres := zi_p c_42 hres
              refine lv_lload_n hx hb d_R_hashOf_63 rfl (lv_at hl 0 rfl) ?_
              exact hj64 v32 ls (lv_sub hl [0, 1, 2] rfl) hres
            · have hres := zi_n c_42 hres
              refine lv_lload_n hx hb d_R_hashOf_45 rfl (lv_at hl 0 rfl) ?_
              refine lv_aload_n hx hb d_R_hashOf_46 rfl (lv_at hl 1 rfl) ?_
              refine va_get (D := D) (ci := 4) (v := .ref (q 15)) (C := R_R) (T := T_R) (N := 23) hx hb hts in_R hown hK hP (0) rfl rfl 15 (by decide) (hts _ k_443) (fun _ h9 => h9) rfl d_R_hashOf_47 ?_
              refine lv_aload_n hx hb d_R_hashOf_50 rfl (lv_at hl 1 rfl) ?_
              refine va_get (D := D) (ci := 4) (v := .ref (q 12)) (C := R_R) (T := T_R) (N := 23) hx hb hts in_R hown hK hP (0) rfl rfl 12 (by decide) (hts _ k_440) (fun _ h9 => h9) rfl d_R_hashOf_51 ?_
              refine lv_iload_n hx hb d_R_hashOf_54 rfl (lv_at hl 2 rfl) ?_
              by_cases ck_55 : zin a0 60
              · have hres := zi_p ck_55 hres
                refine va_iald hx hb hK hP 12 11 rfl rfl ck_55 d_R_hashOf_55 ?_
                by_cases ck_56 : zin (ρ.2.1.1.1.1 a0.toNatClampNeg) 60
                · have hres := zi_p ck_56 hres
                  refine va_lald hx hb hK hP 15 14 rfl rfl ck_56 d_R_hashOf_56 ?_
                  obtain ⟨v57, hc57, hres⟩ := zo_b hres
                  refine vp_callSl (va_Run.run (va_runS (As := [.long v32, .long (ρ.2.1.2.1.1 (ρ.2.1.1.1.1 a0.toNatClampNeg).toNatClampNeg)]) (rest := []) ⟨hx, hb, hml, hown, hts⟩ (c_R_mix l D (zRt cR) v32 (ρ.2.1.2.1.1 (ρ.2.1.1.1.1 a0.toNatClampNeg).toNatClampNeg) v57 hc57) (va_cwS 2 hts (zg_S k_533 k_534 k_32 g_R_mix) rfl rfl rfl hd_R_mix ⟨Nat.le_of_ble_eq_true rfl, Nat.le_of_ble_eq_true rfl⟩) ⟨zro_b _, zro_p va_Pnil hK hN _⟩ rfl rfl hl.1 rfl (lv_room (Nat.le_of_ble_eq_true rfl)) d_R_hashOf_57 ⟨Nat.zero_le _, Nat.zero_le _⟩)) (fun r_57 er_57 => ?_)
                  have er_57 := er_57.symm
                  subst er_57
                  refine lv_goto (tgt := 64) hx hb d_R_hashOf_60 (by decide) ?_
                  exact hj64 v57 ls (lv_sub hl [0, 1, 2] rfl) hres
                · exact absurd (zi_n ck_56 hres) (by simp)
              · exact absurd (zi_n ck_55 hres) (by simp)
          · exact absurd (zi_n ck_41 hres) (by simp)
        refine lv_if_lt (tgt := 30) hx hb d_R_hashOf_23 (by decide) (fun c_23 => ?_) (fun c_23 => ?_)
        · have hres := zi_p c_23 hres
          refine lv_lconst (v := 0) hx hb d_R_hashOf_30 (by decide) ?_
          exact hj31 0 ls (lv_sub hl [0, 1] rfl) hres
        · have hres := zi_n c_23 hres
          refine lv_lconst (v := 1) hx hb d_R_hashOf_26 (by decide) ?_
          refine lv_goto (tgt := 31) hx hb d_R_hashOf_27 (by decide) ?_
          exact hj31 1 ls (lv_sub hl [0, 1] rfl) hres
      · exact absurd (zi_n ck_22 hres) (by simp)
    refine lv_if_lt (tgt := 16) hx hb d_R_hashOf_9 (by decide) (fun c_9 => ?_) (fun c_9 => ?_)
    · have hres := zi_p c_9 hres
      refine lv_lconst (v := 0) hx hb d_R_hashOf_16 (by decide) ?_
      exact hj17 0 ls (lv_sub hl [0, 1] rfl) hres
    · have hres := zi_n c_9 hres
      refine lv_lconst (v := 1) hx hb d_R_hashOf_12 (by decide) ?_
      refine lv_goto (tgt := 17) hx hb d_R_hashOf_13 (by decide) ?_
      exact hj17 1 ls (lv_sub hl [0, 1] rfl) hres
  · exact absurd (zi_n ck_8 hres) (by simp)
def f_R_head (ρ : RSt) (a0 : Int32) : Option (Int32) :=
  Option.bind (f_R_isBranch a0) (fun v1 =>
    if v1 = 0 then
      some (-1)
    else
      if zin a0 4 then
        if (ρ.2.1.2.1.2 a0.toNatClampNeg) < 0 then
          some (-1)
        else
          if zin a0 4 then
            some (ρ.2.1.2.1.2 a0.toNatClampNeg)
          else
            none
      else
        none)
set_option maxHeartbeats 4000000 in
set_option maxRecDepth 100000 in
theorem c_R_head (l : Launch) (D : va_G) (tys : List (ClassId × FieldType)) (q : Nat → Nat) (cR : Nat → ClassId) (ρ : RSt) (a0 : Int32) (v : Int32) (hres : f_R_head ρ a0 = some v) : Met l y_R_head w_R_head ({ frames := 1, cells := 0, slots := 0, locals := 20 } : Room) (va_Pc ([.ref (q 0), .int a0]) (zro D (zRt cR) (zR q cR ρ))) (vp_Si (fun r : Int32 => r = v)) 0 0 (fun _ => False) := by
  refine Met.ofW (cc := b_R_head) (maxL := 2) (ret := (some .int)) (by decide) rfl ?_
  intro p e s m args below meth c s₁ B hml hv
  obtain ⟨rfl, hP, hK, hN⟩ := hv
  have hx := B.exec
  have hb := B.bytes
  have hr := B.returns
  have hts : ∀ w ∈ zt, w.before ([.ref (q 0), .int a0].toArray) s = true := fun w h => atoms_spec (ws := w_R_head) B.pre w (List.mem_cons_of_mem _ h)
  have hown : s.vm.findClass R_R = some m.cls := findClass_of_methodNamed B.named
  have hlocks := B.notSynchronized
  have hl := lv_entry ([.ref (q 0), .int a0]) (n := 2) (Nat.le_of_ble_eq_true rfl)
  rw [lg_entry_eq]
  generalize (lg_sl ([.ref (q 0), .int a0]) ++ List.replicate (2 - (lg_sl ([.ref (q 0), .int a0])).length) Slot.unset).toArray = ls at hl ⊢
  have hl : lv_has ls 2 [(0, .ref (q 0)), (1, .int a0)] := hl
  unfold f_R_head at hres
  refine lv_iload_n hx hb d_R_head_0 rfl (lv_at hl 1 rfl) ?_
  obtain ⟨v1, hc1, hres⟩ := zo_b hres
  refine vp_callSi (va_Run.run (va_runS (As := [.int a0]) (rest := []) ⟨hx, hb, hml, hown, hts⟩ (c_R_isBranch l D (zRt cR) a0 v1 hc1) (va_cwS 1 hts (zg_S k_505 k_506 k_32 g_R_isBranch) rfl rfl rfl hd_R_isBranch ⟨Nat.le_of_ble_eq_true rfl, Nat.le_of_ble_eq_true rfl⟩) ⟨zro_b _, zro_p va_Pnil hK hN _⟩ rfl rfl hl.1 rfl (lv_room (Nat.le_of_ble_eq_true rfl)) d_R_head_1 ⟨Nat.zero_le _, Nat.zero_le _⟩)) (fun r_1 er_1 => ?_)
  have er_1 := er_1.symm
  subst er_1
  refine lv_if_eq (tgt := 25) hx hb d_R_head_4 (by decide) (fun c_4 => ?_) (fun c_4 => ?_)
  · have hres := zi_p c_4 hres
    refine lv_iconst (v := (-1)) hx hb d_R_head_25 (by decide) ?_
    obtain rfl := Option.some.inj hres
    exact W.iret (v := (-1)) hx hb hr (fun t ht hW => ⟨_, rfl, rfl, ht⟩) (fun _ hq => by cases hq) d_R_head_26
  · have hres := zi_n c_4 hres
    refine lv_aload_n hx hb d_R_head_7 rfl (lv_at hl 0 rfl) ?_
    refine va_get (D := D) (ci := 4) (v := .ref (q 16)) (C := R_R) (T := T_R) (N := 23) hx hb hts in_R hown hK hP (0) rfl rfl 16 (by decide) (hts _ k_444) (fun _ h9 => h9) rfl d_R_head_8 ?_
    refine lv_iload_n hx hb d_R_head_11 rfl (lv_at hl 1 rfl) ?_
    by_cases ck_12 : zin a0 4
    · have hres := zi_p ck_12 hres
      refine va_iald hx hb hK hP 16 15 rfl rfl ck_12 d_R_head_12 ?_
      refine lv_if_lt (tgt := 25) hx hb d_R_head_13 (by decide) (fun c_13 => ?_) (fun c_13 => ?_)
      · have hres := zi_p c_13 hres
        refine lv_iconst (v := (-1)) hx hb d_R_head_25 (by decide) ?_
        obtain rfl := Option.some.inj hres
        exact W.iret (v := (-1)) hx hb hr (fun t ht hW => ⟨_, rfl, rfl, ht⟩) (fun _ hq => by cases hq) d_R_head_26
      · have hres := zi_n c_13 hres
        refine lv_aload_n hx hb d_R_head_16 rfl (lv_at hl 0 rfl) ?_
        refine va_get (D := D) (ci := 4) (v := .ref (q 16)) (C := R_R) (T := T_R) (N := 23) hx hb hts in_R hown hK hP (0) rfl rfl 16 (by decide) (hts _ k_444) (fun _ h9 => h9) rfl d_R_head_17 ?_
        refine lv_iload_n hx hb d_R_head_20 rfl (lv_at hl 1 rfl) ?_
        by_cases ck_21 : zin a0 4
        · have hres := zi_p ck_21 hres
          refine va_iald hx hb hK hP 16 15 rfl rfl ck_21 d_R_head_21 ?_
          refine lv_goto (tgt := 26) hx hb d_R_head_22 (by decide) ?_
          obtain rfl := Option.some.inj hres
          exact W.iret (v := (ρ.2.1.2.1.2 a0.toNatClampNeg)) hx hb hr (fun t ht hW => ⟨_, rfl, rfl, ht⟩) (fun _ hq => by cases hq) d_R_head_26
        · exact absurd (zi_n ck_21 hres) (by simp)
    · exact absurd (zi_n ck_12 hres) (by simp)
def f_R_meet (ρ : RSt) (a0 : Int32) (a1 : Int32) (a2 : Int32) : Option (Int32) :=
  Option.bind (f_R_isCommit ρ a0) (fun v2 =>
    if v2 = 0 then
      some (-1)
    else
      Option.bind (f_R_isCommit ρ a1) (fun v10 =>
        if v10 = 0 then
          some (-1)
        else
          if a2 < 0 then
            some (-1)
          else
            Option.bind (f_R_meetOf ρ a0 a1 a2) (fun v24 =>
              if 0 ≤ v24 then
                some v24
              else
                some (-1))))
set_option maxHeartbeats 4000000 in
set_option maxRecDepth 100000 in
theorem c_R_meet (l : Launch) (D : va_G) (tys : List (ClassId × FieldType)) (q : Nat → Nat) (cR : Nat → ClassId) (ρ : RSt) (a0 : Int32) (a1 : Int32) (a2 : Int32) (v : Int32) (hres : f_R_meet ρ a0 a1 a2 = some v) : Met l y_R_meet w_R_meet ({ frames := 1, cells := 0, slots := 0, locals := 29 } : Room) (va_Pc ([.ref (q 0), .int a0, .int a1, .int a2]) (zro D (zRt cR) (zR q cR ρ))) (vp_Si (fun r : Int32 => r = v)) 0 0 (fun _ => False) := by
  refine Met.ofW (cc := b_R_meet) (maxL := 5) (ret := (some .int)) (by decide) rfl ?_
  intro p e s m args below meth c s₁ B hml hv
  obtain ⟨rfl, hP, hK, hN⟩ := hv
  have hx := B.exec
  have hb := B.bytes
  have hr := B.returns
  have hts : ∀ w ∈ zt, w.before ([.ref (q 0), .int a0, .int a1, .int a2].toArray) s = true := fun w h => atoms_spec (ws := w_R_meet) B.pre w (List.mem_cons_of_mem _ h)
  have hown : s.vm.findClass R_R = some m.cls := findClass_of_methodNamed B.named
  have hlocks := B.notSynchronized
  have hl := lv_entry ([.ref (q 0), .int a0, .int a1, .int a2]) (n := 5) (Nat.le_of_ble_eq_true rfl)
  rw [lg_entry_eq]
  generalize (lg_sl ([.ref (q 0), .int a0, .int a1, .int a2]) ++ List.replicate (5 - (lg_sl ([.ref (q 0), .int a0, .int a1, .int a2])).length) Slot.unset).toArray = ls at hl ⊢
  have hl : lv_has ls 5 [(0, .ref (q 0)), (1, .int a0), (2, .int a1), (3, .int a2)] := hl
  unfold f_R_meet at hres
  refine lv_aload_n hx hb d_R_meet_0 rfl (lv_at hl 0 rfl) ?_
  refine lv_iload_n hx hb d_R_meet_1 rfl (lv_at hl 1 rfl) ?_
  obtain ⟨v2, hc2, hres⟩ := zo_b hres
  refine vp_callSi (va_Run.run (va_runV (As := [.int a0]) (rest := []) ⟨hx, hb, hml, hown, hts⟩ (c_R_isCommit l D (zRt cR) q cR ρ a0 v2 hc2) (cwV 1 hts (zg_V k_551 k_553 k_16 k_32 g_R_isCommit) rfl rfl rfl ⟨rfl, hd_R_isCommit⟩ ⟨Nat.le_of_ble_eq_true rfl, Nat.le_of_ble_eq_true rfl⟩) ⟨zro_b _, va_recv hK hP (q0 := 0) rfl rfl, zro_p hP hK hN _⟩ rfl rfl hl.1 rfl (lv_room (Nat.le_of_ble_eq_true rfl)) d_R_meet_2 ⟨Nat.zero_le _, Nat.zero_le _⟩)) (fun r_2 er_2 => ?_)
  have er_2 := er_2.symm
  subst er_2
  refine lv_if_eq (tgt := 30) hx hb d_R_meet_5 (by decide) (fun c_5 => ?_) (fun c_5 => ?_)
  · have hres := zi_p c_5 hres
    refine lv_iconst (v := (-1)) hx hb d_R_meet_30 (by decide) ?_
    refine lv_istore (lv' := [(4, .int (-1)), (0, .ref (q 0)), (1, .int a0), (2, .int a1), (3, .int a2)]) hx hb d_R_meet_31 hl (by decide) rfl (fun ls hl => ?_)
    refine lv_iload hx hb d_R_meet_33 (lv_at hl 0 rfl) ?_
    refine lv_if_ge (tgt := 42) hx hb d_R_meet_35 (by decide) (fun c => absurd c (by decide)) (fun _ => ?_)
    refine lv_iconst (v := (-1)) hx hb d_R_meet_38 (by decide) ?_
    refine lv_goto (tgt := 44) hx hb d_R_meet_39 (by decide) ?_
    obtain rfl := Option.some.inj hres
    exact W.iret (v := (-1)) hx hb hr (fun t ht hW => ⟨_, rfl, rfl, ht⟩) (fun _ hq => by cases hq) d_R_meet_44
  · have hres := zi_n c_5 hres
    refine lv_aload_n hx hb d_R_meet_8 rfl (lv_at hl 0 rfl) ?_
    refine lv_iload_n hx hb d_R_meet_9 rfl (lv_at hl 2 rfl) ?_
    obtain ⟨v10, hc10, hres⟩ := zo_b hres
    refine vp_callSi (va_Run.run (va_runV (As := [.int a1]) (rest := []) ⟨hx, hb, hml, hown, hts⟩ (c_R_isCommit l D (zRt cR) q cR ρ a1 v10 hc10) (cwV 1 hts (zg_V k_551 k_553 k_16 k_32 g_R_isCommit) rfl rfl rfl ⟨rfl, hd_R_isCommit⟩ ⟨Nat.le_of_ble_eq_true rfl, Nat.le_of_ble_eq_true rfl⟩) ⟨zro_b _, va_recv hK hP (q0 := 0) rfl rfl, zro_p hP hK hN _⟩ rfl rfl hl.1 rfl (lv_room (Nat.le_of_ble_eq_true rfl)) d_R_meet_10 ⟨Nat.zero_le _, Nat.zero_le _⟩)) (fun r_10 er_10 => ?_)
    have er_10 := er_10.symm
    subst er_10
    refine lv_if_eq (tgt := 30) hx hb d_R_meet_13 (by decide) (fun c_13 => ?_) (fun c_13 => ?_)
    · have hres := zi_p c_13 hres
      refine lv_iconst (v := (-1)) hx hb d_R_meet_30 (by decide) ?_
      refine lv_istore (lv' := [(4, .int (-1)), (0, .ref (q 0)), (1, .int a0), (2, .int a1), (3, .int a2)]) hx hb d_R_meet_31 hl (by decide) rfl (fun ls hl => ?_)
      refine lv_iload hx hb d_R_meet_33 (lv_at hl 0 rfl) ?_
      refine lv_if_ge (tgt := 42) hx hb d_R_meet_35 (by decide) (fun c => absurd c (by decide)) (fun _ => ?_)
      refine lv_iconst (v := (-1)) hx hb d_R_meet_38 (by decide) ?_
      refine lv_goto (tgt := 44) hx hb d_R_meet_39 (by decide) ?_
      obtain rfl := Option.some.inj hres
      exact W.iret (v := (-1)) hx hb hr (fun t ht hW => ⟨_, rfl, rfl, ht⟩) (fun _ hq => by cases hq) d_R_meet_44
    · have hres := zi_n c_13 hres
      refine lv_iload_n hx hb d_R_meet_16 rfl (lv_at hl 3 rfl) ?_
      refine lv_if_lt (tgt := 30) hx hb d_R_meet_17 (by decide) (fun c_17 => ?_) (fun c_17 => ?_)
      · have hres := zi_p c_17 hres
        refine lv_iconst (v := (-1)) hx hb d_R_meet_30 (by decide) ?_
        refine lv_istore (lv' := [(4, .int (-1)), (0, .ref (q 0)), (1, .int a0), (2, .int a1), (3, .int a2)]) hx hb d_R_meet_31 hl (by decide) rfl (fun ls hl => ?_)
        refine lv_iload hx hb d_R_meet_33 (lv_at hl 0 rfl) ?_
        refine lv_if_ge (tgt := 42) hx hb d_R_meet_35 (by decide) (fun c => absurd c (by decide)) (fun _ => ?_)
        refine lv_iconst (v := (-1)) hx hb d_R_meet_38 (by decide) ?_
        refine lv_goto (tgt := 44) hx hb d_R_meet_39 (by decide) ?_
        obtain rfl := Option.some.inj hres
        exact W.iret (v := (-1)) hx hb hr (fun t ht hW => ⟨_, rfl, rfl, ht⟩) (fun _ hq => by cases hq) d_R_meet_44
      · have hres := zi_n c_17 hres
        refine lv_aload_n hx hb d_R_meet_20 rfl (lv_at hl 0 rfl) ?_
        refine lv_iload_n hx hb d_R_meet_21 rfl (lv_at hl 1 rfl) ?_
        refine lv_iload_n hx hb d_R_meet_22 rfl (lv_at hl 2 rfl) ?_
        refine lv_iload_n hx hb d_R_meet_23 rfl (lv_at hl 3 rfl) ?_
        obtain ⟨v24, hc24, hres⟩ := zo_b hres
        refine vp_callSi (va_Run.run (va_runV (As := [.int a0, .int a1, .int a2]) (rest := []) ⟨hx, hb, hml, hown, hts⟩ (c_R_meetOf l D (zRt cR) q cR ρ a0 a1 a2 v24 hc24) (cwV 3 hts (zg_V k_571 k_573 k_20 k_32 g_R_meetOf) rfl rfl rfl ⟨rfl, hd_R_meetOf⟩ ⟨Nat.le_of_ble_eq_true rfl, Nat.le_of_ble_eq_true rfl⟩) ⟨zro_b _, va_recv hK hP (q0 := 0) rfl rfl, zro_p hP hK hN _⟩ rfl rfl hl.1 rfl (lv_room (Nat.le_of_ble_eq_true rfl)) d_R_meet_24 ⟨Nat.zero_le _, Nat.zero_le _⟩)) (fun r_24 er_24 => ?_)
        have er_24 := er_24.symm
        subst er_24
        refine lv_goto (tgt := 31) hx hb d_R_meet_27 (by decide) ?_
        refine lv_istore (lv' := [(4, .int v24), (0, .ref (q 0)), (1, .int a0), (2, .int a1), (3, .int a2)]) hx hb d_R_meet_31 hl (by decide) rfl (fun ls hl => ?_)
        refine lv_iload hx hb d_R_meet_33 (lv_at hl 0 rfl) ?_
        refine lv_if_ge (tgt := 42) hx hb d_R_meet_35 (by decide) (fun c_35 => ?_) (fun c_35 => ?_)
        · have hres := zi_p c_35 hres
          refine lv_iload hx hb d_R_meet_42 (lv_at hl 0 rfl) ?_
          obtain rfl := Option.some.inj hres
          exact W.iret (v := v24) hx hb hr (fun t ht hW => ⟨_, rfl, rfl, ht⟩) (fun _ hq => by cases hq) d_R_meet_44
        · have hres := zi_n c_35 hres
          refine lv_iconst (v := (-1)) hx hb d_R_meet_38 (by decide) ?_
          refine lv_goto (tgt := 44) hx hb d_R_meet_39 (by decide) ?_
          obtain rfl := Option.some.inj hres
          exact W.iret (v := (-1)) hx hb hr (fun t ht hW => ⟨_, rfl, rfl, ht⟩) (fun _ hq => by cases hq) d_R_meet_44
def J_R_member_49 (j15_s0 : Int32) (j32_s0 : Int32) (j49_s0 : Int32) : Option (Int32) :=
  if j15_s0 = 0 then
    if j32_s0 = 0 then
      if j49_s0 = 0 then
        some 0
      else
        some 1
    else
      some 1
  else
    if j32_s0 = 0 then
      some 0
    else
      if j49_s0 = 0 then
        some 0
      else
        some 1
def J_R_member_32 (ρ : RSt) (a2 : Int32) (a3 : Int32) (j15_s0 : Int32) (j32_s0 : Int32) : Option (Int32) :=
  Option.bind (f_R_placeOf ρ a2 a3) (fun v38 =>
    if v38 < 0 then
      J_R_member_49 j15_s0 j32_s0 0
    else
      J_R_member_49 j15_s0 j32_s0 1)
def J_R_member_15 (ρ : RSt) (a1 : Int32) (a2 : Int32) (a3 : Int32) (j15_s0 : Int32) : Option (Int32) :=
  Option.bind (f_R_placeOf ρ a1 a3) (fun v21 =>
    if v21 < 0 then
      J_R_member_32 ρ a2 a3 j15_s0 0
    else
      J_R_member_32 ρ a2 a3 j15_s0 1)
def f_R_member (ρ : RSt) (a0 : Int32) (a1 : Int32) (a2 : Int32) (a3 : Int32) : Option (Int32) :=
  Option.bind (f_R_placeOf ρ a0 a3) (fun v4 =>
    if v4 < 0 then
      J_R_member_15 ρ a1 a2 a3 0
    else
      J_R_member_15 ρ a1 a2 a3 1)
set_option maxHeartbeats 4000000 in
set_option maxRecDepth 100000 in
theorem c_R_member (l : Launch) (D : va_G) (tys : List (ClassId × FieldType)) (q : Nat → Nat) (cR : Nat → ClassId) (ρ : RSt) (a0 : Int32) (a1 : Int32) (a2 : Int32) (a3 : Int32) (v : Int32) (hres : f_R_member ρ a0 a1 a2 a3 = some v) : Met l y_R_member w_R_member ({ frames := 1, cells := 0, slots := 0, locals := 23 } : Room) (va_Pc ([.ref (q 0), .int a0, .int a1, .int a2, .int a3]) (zro D (zRt cR) (zR q cR ρ))) (vp_Si (fun r : Int32 => r = v)) 0 0 (fun _ => False) := by
  refine Met.ofW (cc := b_R_member) (maxL := 8) (ret := (some .boolean)) (by decide) rfl ?_
  intro p e s m args below meth c s₁ B hml hv
  obtain ⟨rfl, hP, hK, hN⟩ := hv
  have hx := B.exec
  have hb := B.bytes
  have hr := B.returns
  have hts : ∀ w ∈ zt, w.before ([.ref (q 0), .int a0, .int a1, .int a2, .int a3].toArray) s = true := fun w h => atoms_spec (ws := w_R_member) B.pre w (List.mem_cons_of_mem _ h)
  have hown : s.vm.findClass R_R = some m.cls := findClass_of_methodNamed B.named
  have hlocks := B.notSynchronized
  have hl := lv_entry ([.ref (q 0), .int a0, .int a1, .int a2, .int a3]) (n := 8) (Nat.le_of_ble_eq_true rfl)
  rw [lg_entry_eq]
  generalize (lg_sl ([.ref (q 0), .int a0, .int a1, .int a2, .int a3]) ++ List.replicate (8 - (lg_sl ([.ref (q 0), .int a0, .int a1, .int a2, .int a3])).length) Slot.unset).toArray = ls at hl ⊢
  have hl : lv_has ls 8 [(0, .ref (q 0)), (1, .int a0), (2, .int a1), (3, .int a2), (4, .int a3)] := hl
  unfold f_R_member at hres
  refine lv_aload_n hx hb d_R_member_0 rfl (lv_at hl 0 rfl) ?_
  refine lv_iload_n hx hb d_R_member_1 rfl (lv_at hl 1 rfl) ?_
  refine lv_iload hx hb d_R_member_2 (lv_at hl 4 rfl) ?_
  obtain ⟨v4, hc4, hres⟩ := zo_b hres
  refine vp_callSi (va_Run.run (va_runV (As := [.int a0, .int a3]) (rest := []) ⟨hx, hb, hml, hown, hts⟩ (c_R_placeOf l D (zRt cR) q cR ρ a0 a3 v4 hc4) (cwV 2 hts (zg_V k_512 k_514 k_10 k_32 g_R_placeOf) rfl rfl rfl ⟨rfl, hd_R_placeOf⟩ ⟨Nat.le_of_ble_eq_true rfl, Nat.le_of_ble_eq_true rfl⟩) ⟨zro_b _, va_recv hK hP (q0 := 0) rfl rfl, zro_p hP hK hN _⟩ rfl rfl hl.1 rfl (lv_room (Nat.le_of_ble_eq_true rfl)) d_R_member_4 ⟨Nat.zero_le _, Nat.zero_le _⟩)) (fun r_4 er_4 => ?_)
  have er_4 := er_4.symm
  subst er_4
  have hj15 : ∀ (j15_s0 : Int32) (ls : Array Slot), lv_has ls 8 [(0, .ref (q 0)), (1, .int a0), (2, .int a1), (3, .int a2), (4, .int a3)] → J_R_member_15 ρ a1 a2 a3 j15_s0 = some v → W p l e (headSpec w_R_member ({ frames := 1, cells := 0, slots := 0, locals := 23 } : Room)).room s m ([.ref (q 0), .int a0, .int a1, .int a2, .int a3].toArray) below meth c s.heap [] 0 0 (MQ below (vp_Si (fun r : Int32 => r = v)) ([.ref (q 0), .int a0, .int a1, .int a2, .int a3].toArray) s 0 0 (fun _ => False)) (F0 m 15 ls [.int j15_s0]) := by
    intro j15_s0 ls hl hres
    unfold J_R_member_15 at hres
    refine lv_istore (lv' := [(5, .int j15_s0), (0, .ref (q 0)), (1, .int a0), (2, .int a1), (3, .int a2), (4, .int a3)]) hx hb d_R_member_15 hl (by decide) rfl (fun ls hl => ?_)
    refine lv_aload_n hx hb d_R_member_17 rfl (lv_at hl 1 rfl) ?_
    refine lv_iload_n hx hb d_R_member_18 rfl (lv_at hl 3 rfl) ?_
    refine lv_iload hx hb d_R_member_19 (lv_at hl 5 rfl) ?_
    obtain ⟨v21, hc21, hres⟩ := zo_b hres
    refine vp_callSi (va_Run.run (va_runV (As := [.int a1, .int a3]) (rest := []) ⟨hx, hb, hml, hown, hts⟩ (c_R_placeOf l D (zRt cR) q cR ρ a1 a3 v21 hc21) (cwV 2 hts (zg_V k_512 k_514 k_10 k_32 g_R_placeOf) rfl rfl rfl ⟨rfl, hd_R_placeOf⟩ ⟨Nat.le_of_ble_eq_true rfl, Nat.le_of_ble_eq_true rfl⟩) ⟨zro_b _, va_recv hK hP (q0 := 0) rfl rfl, zro_p hP hK hN _⟩ rfl rfl hl.1 rfl (lv_room (Nat.le_of_ble_eq_true rfl)) d_R_member_21 ⟨Nat.zero_le _, Nat.zero_le _⟩)) (fun r_21 er_21 => ?_)
    have er_21 := er_21.symm
    subst er_21
    have hj32 : ∀ (j32_s0 : Int32) (ls : Array Slot), lv_has ls 8 [(5, .int j15_s0), (0, .ref (q 0)), (1, .int a0), (2, .int a1), (3, .int a2), (4, .int a3)] → J_R_member_32 ρ a2 a3 j15_s0 j32_s0 = some v → W p l e (headSpec w_R_member ({ frames := 1, cells := 0, slots := 0, locals := 23 } : Room)).room s m ([.ref (q 0), .int a0, .int a1, .int a2, .int a3].toArray) below meth c s.heap [] 0 0 (MQ below (vp_Si (fun r : Int32 => r = v)) ([.ref (q 0), .int a0, .int a1, .int a2, .int a3].toArray) s 0 0 (fun _ => False)) (F0 m 32 ls [.int j32_s0]) := by
      intro j32_s0 ls hl hres
      unfold J_R_member_32 at hres
      refine lv_istore (lv' := [(6, .int j32_s0), (5, .int j15_s0), (0, .ref (q 0)), (1, .int a0), (2, .int a1), (3, .int a2), (4, .int a3)]) hx hb d_R_member_32 hl (by decide) rfl (fun ls hl => ?_)
      refine lv_aload_n hx hb d_R_member_34 rfl (lv_at hl 2 rfl) ?_
      refine lv_iload_n hx hb d_R_member_35 rfl (lv_at hl 5 rfl) ?_
      refine lv_iload hx hb d_R_member_36 (lv_at hl 6 rfl) ?_
      obtain ⟨v38, hc38, hres⟩ := zo_b hres
      refine vp_callSi (va_Run.run (va_runV (As := [.int a2, .int a3]) (rest := []) ⟨hx, hb, hml, hown, hts⟩ (c_R_placeOf l D (zRt cR) q cR ρ a2 a3 v38 hc38) (cwV 2 hts (zg_V k_512 k_514 k_10 k_32 g_R_placeOf) rfl rfl rfl ⟨rfl, hd_R_placeOf⟩ ⟨Nat.le_of_ble_eq_true rfl, Nat.le_of_ble_eq_true rfl⟩) ⟨zro_b _, va_recv hK hP (q0 := 0) rfl rfl, zro_p hP hK hN _⟩ rfl rfl hl.1 rfl (lv_room (Nat.le_of_ble_eq_true rfl)) d_R_member_38 ⟨Nat.zero_le _, Nat.zero_le _⟩)) (fun r_38 er_38 => ?_)
      have er_38 := er_38.symm
      subst er_38
      have hj49 : ∀ (j49_s0 : Int32) (ls : Array Slot), lv_has ls 8 [(6, .int j32_s0), (5, .int j15_s0), (0, .ref (q 0)), (1, .int a0), (2, .int a1), (3, .int a2), (4, .int a3)] → J_R_member_49 j15_s0 j32_s0 j49_s0 = some v → W p l e (headSpec w_R_member ({ frames := 1, cells := 0, slots := 0, locals := 23 } : Room)).room s m ([.ref (q 0), .int a0, .int a1, .int a2, .int a3].toArray) below meth c s.heap [] 0 0 (MQ below (vp_Si (fun r : Int32 => r = v)) ([.ref (q 0), .int a0, .int a1, .int a2, .int a3].toArray) s 0 0 (fun _ => False)) (F0 m 49 ls [.int j49_s0]) := by
        intro j49_s0 ls hl hres
        unfold J_R_member_49 at hres
        refine lv_istore (lv' := [(7, .int j49_s0), (6, .int j32_s0), (5, .int j15_s0), (0, .ref (q 0)), (1, .int a0), (2, .int a1), (3, .int a2), (4, .int a3)]) hx hb d_R_member_49 hl (by decide) rfl (fun ls hl => ?_)
        refine lv_iload hx hb d_R_member_51 (lv_at hl 2 rfl) ?_
        refine lv_if_eq (tgt := 74) hx hb d_R_member_53 (by decide) (fun c_53 => ?_) (fun c_53 => ?_)
        · have hres := zi_p c_53 hres
          refine lv_iload hx hb d_R_member_74 (lv_at hl 1 rfl) ?_
          refine lv_if_ne (tgt := 84) hx hb d_R_member_76 (by decide) (fun c_76 => ?_) (fun c_76 => ?_)
          · have hres := zi_n c_76 hres
            refine lv_iconst (v := 1) hx hb d_R_member_84 (by decide) ?_
            refine lv_goto (tgt := 89) hx hb d_R_member_85 (by decide) ?_
            obtain rfl := Option.some.inj hres
            exact W.zret (v := 1) (ty := .boolean) hx hb hr rfl (fun t ht hW => ⟨_, rfl, rfl, ht⟩) (fun _ hq => by cases hq) d_R_member_89
          · have hres := zi_p c_76 hres
            refine lv_iload hx hb d_R_member_79 (lv_at hl 0 rfl) ?_
            refine lv_if_eq (tgt := 88) hx hb d_R_member_81 (by decide) (fun c_81 => ?_) (fun c_81 => ?_)
            · have hres := zi_p c_81 hres
              refine lv_iconst (v := 0) hx hb d_R_member_88 (by decide) ?_
              obtain rfl := Option.some.inj hres
              exact W.zret (v := 0) (ty := .boolean) hx hb hr rfl (fun t ht hW => ⟨_, rfl, rfl, ht⟩) (fun _ hq => by cases hq) d_R_member_89
            · have hres := zi_n c_81 hres
              refine lv_iconst (v := 1) hx hb d_R_member_84 (by decide) ?_
              refine lv_goto (tgt := 89) hx hb d_R_member_85 (by decide) ?_
              obtain rfl := Option.some.inj hres
              exact W.zret (v := 1) (ty := .boolean) hx hb hr rfl (fun t ht hW => ⟨_, rfl, rfl, ht⟩) (fun _ hq => by cases hq) d_R_member_89
        · have hres := zi_n c_53 hres
          refine lv_iload hx hb d_R_member_56 (lv_at hl 1 rfl) ?_
          refine lv_if_eq (tgt := 70) hx hb d_R_member_58 (by decide) (fun c_58 => ?_) (fun c_58 => ?_)
          · have hres := zi_p c_58 hres
            refine lv_iconst (v := 0) hx hb d_R_member_70 (by decide) ?_
            refine lv_goto (tgt := 89) hx hb d_R_member_71 (by decide) ?_
            obtain rfl := Option.some.inj hres
            exact W.zret (v := 0) (ty := .boolean) hx hb hr rfl (fun t ht hW => ⟨_, rfl, rfl, ht⟩) (fun _ hq => by cases hq) d_R_member_89
          · have hres := zi_n c_58 hres
            refine lv_iload hx hb d_R_member_61 (lv_at hl 0 rfl) ?_
            refine lv_if_eq (tgt := 70) hx hb d_R_member_63 (by decide) (fun c_63 => ?_) (fun c_63 => ?_)
            · have hres := zi_p c_63 hres
              refine lv_iconst (v := 0) hx hb d_R_member_70 (by decide) ?_
              refine lv_goto (tgt := 89) hx hb d_R_member_71 (by decide) ?_
              obtain rfl := Option.some.inj hres
              exact W.zret (v := 0) (ty := .boolean) hx hb hr rfl (fun t ht hW => ⟨_, rfl, rfl, ht⟩) (fun _ hq => by cases hq) d_R_member_89
            · have hres := zi_n c_63 hres
              refine lv_iconst (v := 1) hx hb d_R_member_66 (by decide) ?_
              refine lv_goto (tgt := 89) hx hb d_R_member_67 (by decide) ?_
              obtain rfl := Option.some.inj hres
              exact W.zret (v := 1) (ty := .boolean) hx hb hr rfl (fun t ht hW => ⟨_, rfl, rfl, ht⟩) (fun _ hq => by cases hq) d_R_member_89
      refine lv_if_lt (tgt := 48) hx hb d_R_member_41 (by decide) (fun c_41 => ?_) (fun c_41 => ?_)
      · have hres := zi_p c_41 hres
        refine lv_iconst (v := 0) hx hb d_R_member_48 (by decide) ?_
        exact hj49 0 ls (lv_sub hl [0, 1, 2, 3, 4, 5, 6] rfl) hres
      · have hres := zi_n c_41 hres
        refine lv_iconst (v := 1) hx hb d_R_member_44 (by decide) ?_
        refine lv_goto (tgt := 49) hx hb d_R_member_45 (by decide) ?_
        exact hj49 1 ls (lv_sub hl [0, 1, 2, 3, 4, 5, 6] rfl) hres
    refine lv_if_lt (tgt := 31) hx hb d_R_member_24 (by decide) (fun c_24 => ?_) (fun c_24 => ?_)
    · have hres := zi_p c_24 hres
      refine lv_iconst (v := 0) hx hb d_R_member_31 (by decide) ?_
      exact hj32 0 ls (lv_sub hl [0, 1, 2, 3, 4, 5] rfl) hres
    · have hres := zi_n c_24 hres
      refine lv_iconst (v := 1) hx hb d_R_member_27 (by decide) ?_
      refine lv_goto (tgt := 32) hx hb d_R_member_28 (by decide) ?_
      exact hj32 1 ls (lv_sub hl [0, 1, 2, 3, 4, 5] rfl) hres
  refine lv_if_lt (tgt := 14) hx hb d_R_member_7 (by decide) (fun c_7 => ?_) (fun c_7 => ?_)
  · have hres := zi_p c_7 hres
    refine lv_iconst (v := 0) hx hb d_R_member_14 (by decide) ?_
    exact hj15 0 ls (lv_sub hl [0, 1, 2, 3, 4] rfl) hres
  · have hres := zi_n c_7 hres
    refine lv_iconst (v := 1) hx hb d_R_member_10 (by decide) ?_
    refine lv_goto (tgt := 15) hx hb d_R_member_11 (by decide) ?_
    exact hj15 1 ls (lv_sub hl [0, 1, 2, 3, 4] rfl) hres

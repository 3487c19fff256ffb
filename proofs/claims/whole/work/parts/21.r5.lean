abbrev qd_R_base (D : va_G) (tys : List (ClassId × FieldType)) (q : Nat → Nat) (cR : Nat → ClassId) (ρ : RSt) (a0 : Int32) (a1 : Int32) (v : Int32 × RSt) (A : Nat → Prop) : Array Value → State → Outcome → State → Prop := va_Qi (fun (r : Int32) (_ : Unit) => r = v.1) (fun _ t => zwd D (zRt cR) (A) (zR q cR v.2) t) (A)

def J_R_base_68_2 (x9_3 : Int32) (g9 : RSt) (v27 : Int32) (lc9 : Int32 → RSt → Option ((Int32 × RSt) ⊕ (Int32 × RSt))) (j68_s0 : Int32) : Option ((Int32 × RSt) ⊕ (Int32 × RSt)) :=
  if j68_s0 < 0 then
    if (x9_3 + (-1)) < 0 then
      lc9 (x9_3 + (-1)) g9
    else
      if zin (x9_3 + (-1)) 5 then
        if zin (x9_3 + (-1)) 5 then
          if zin (x9_3 + (-1)) 5 then
            Option.bind (f_R_meetOf g9 (g9.2.2.1.2 (x9_3 + (-1)).toNatClampNeg) (g9.2.2.2.1 (x9_3 + (-1)).toNatClampNeg) (g9.2.2.2.2 (x9_3 + (-1)).toNatClampNeg)) (fun v116 =>
              Option.bind (f_R_mergeTrees g9 ((60 + (x9_3 + (-1))) + 1) (60 + (x9_3 + (-1))) v116) (fun v134 =>
                if v134.1 = 0 then
                  Option.bind (f_R_copy v134.2 65 (60 + (x9_3 + (-1)))) (fun v154 =>
                    if zin (x9_3 + (-1)) 5 then
                      if zin (x9_3 + (-1)) 5 then
                        lc9 (x9_3 + (-1)) (((((v154.1.1.1.1.1, v154.1.1.1.1.2), v154.1.1.1.2), ((v154.1.1.2.1.1, v154.1.1.2.1.2), v154.1.1.2.2)), (((v154.1.2.1.1.1, v154.1.2.1.1.2), v154.1.2.1.2), ((v154.1.2.2.1.1, v154.1.2.2.1.2), v154.1.2.2.2))), ((((v154.2.1.1.1.1, v154.2.1.1.1.2), v154.2.1.1.2), ((v154.2.1.2.1.1, v154.2.1.2.1.2), v154.2.1.2.2)), (((v154.2.2.1.1.1, v154.2.2.1.1.2), v154.2.2.1.2), (v154.2.2.2.1, (upd v154.2.2.2.2 (x9_3 + (-1)).toNatClampNeg ((v154.2.2.2.2 (x9_3 + (-1)).toNatClampNeg) + 1))))))
                      else
                        none
                    else
                      none)
                else
                  some (Sum.inl (v134.1, v134.2))))
          else
            none
        else
          none
      else
        none
  else
    Option.bind (f_R_enter g9 (x9_3 + 1) v27 j68_s0) (fun v84 =>
      lc9 (x9_3 + 1) v84)
def L_R_base_9 : Nat → Int32 → RSt → Option ((Int32 × RSt) ⊕ (Int32 × RSt))
  | 0, _, _ => none
  | n + 1, x9_3, g9 =>
    if x9_3 < 0 then
      some (Sum.inr (x9_3, g9))
    else
      if zin x9_3 5 then
        if zin x9_3 5 then
          Option.bind (f_R_meetOf g9 (g9.2.2.1.2 x9_3.toNatClampNeg) (g9.2.2.2.1 x9_3.toNatClampNeg) 0) (fun v27 =>
            if v27 < 0 then
              J_R_base_68_2 x9_3 g9 v27 (L_R_base_9 n) (-1)
            else
              if x9_3 = 4 then
                J_R_base_68_2 x9_3 g9 v27 (L_R_base_9 n) (-1)
              else
                if zin x9_3 5 then
                  if zin x9_3 5 then
                    if zin x9_3 5 then
                      Option.bind (f_R_meetOf g9 (g9.2.2.1.2 x9_3.toNatClampNeg) (g9.2.2.2.1 x9_3.toNatClampNeg) (g9.2.2.2.2 x9_3.toNatClampNeg)) (fun v65 =>
                        J_R_base_68_2 x9_3 g9 v27 (L_R_base_9 n) v65)
                    else
                      none
                  else
                    none
                else
                  none)
        else
          none
      else
        none
def f_R_base (ρ : RSt) (a0 : Int32) (a1 : Int32) : Option (Int32 × RSt) :=
  Option.bind (f_R_enter ρ 0 a0 a1) (fun v4 =>
    Option.bind (L_R_base_9 zfuel 0 v4) (fun w9 =>
      zs_m w9 (fun r => some r) (fun u9 =>
        some (0, u9.2))))
set_option maxHeartbeats 4000000 in
set_option maxRecDepth 100000 in
theorem c_R_base (l : Launch) (D : va_G) (tys : List (ClassId × FieldType)) (sz : Nat) (q : Nat → Nat) (cR : Nat → ClassId) (ρ : RSt) (a0 : Int32) (a1 : Int32) (v : Int32 × RSt) (hres : f_R_base ρ a0 a1 = some v) : Met l y_R_base w_R_base ({ frames := 5, cells := 0, slots := 0, locals := 129 } : Room) (va_Pc ([.ref (q 0), .int a0, .int a1]) (zrw D (zRt cR) sz (zR q cR ρ))) (qd_R_base D tys q cR ρ a0 a1 v (va_A (zR q cR ρ) sz)) 0 0 (va_A (zR q cR ρ) sz) := by
  refine Met.ofW (cc := b_R_base) (maxL := 8) (ret := (some .int)) (by decide) rfl ?_
  intro p e s m args below meth c s₁ B hml hv
  obtain ⟨rfl, hsz, hP, hK, hD0, hN⟩ := hv
  have hx := B.exec
  have hb := B.bytes
  have hr := B.returns
  have hts : ∀ w ∈ zt, w.before ([.ref (q 0), .int a0, .int a1].toArray) s = true := fun w h => atoms_spec (ws := w_R_base) B.pre w (List.mem_cons_of_mem _ h)
  have hown : s.vm.findClass R_R = some m.cls := findClass_of_methodNamed B.named
  have hlocks := B.notSynchronized
  subst hsz
  have hD := hD0.self (sz := s.heap.size)
  generalize hAe : va_A (zR q cR ρ) s.heap.size = A at hD ⊢
  have hA : ∀ q : Nat, s.heap.size ≤ q → A q := fun q h => by rw [← hAe]; exact Or.inr h
  have hS : va_S A s.heap s.heap [] := va_S.rf
  have hP : va_P D vwCl (zR q cR ρ) s.heap := hP
  have hD : va_D A (zR q cR ρ) := hD
  have hl := lv_entry ([.ref (q 0), .int a0, .int a1]) (n := 8) (Nat.le_of_ble_eq_true rfl)
  rw [lg_entry_eq]
  generalize (lg_sl ([.ref (q 0), .int a0, .int a1]) ++ List.replicate (8 - (lg_sl ([.ref (q 0), .int a0, .int a1])).length) Slot.unset).toArray = ls at hl ⊢
  have hl : lv_has ls 8 [(0, .ref (q 0)), (1, .int a0), (2, .int a1)] := hl
  unfold f_R_base at hres
  refine lv_aload_n hx hb d_R_base_0 rfl (lv_at hl 0 rfl) ?_
  refine lv_iconst (v := 0) hx hb d_R_base_1 (by decide) ?_
  refine lv_iload_n hx hb d_R_base_2 rfl (lv_at hl 1 rfl) ?_
  refine lv_iload_n hx hb d_R_base_3 rfl (lv_at hl 2 rfl) ?_
  obtain ⟨v4, hc4, hres⟩ := zo_b hres
  refine zw_v (ws' := zR q cR v4) (va_runV (As := [.int 0, .int a0, .int a1]) (rest := []) ⟨hx, hb, hml, hown, hts⟩ (c_R_enter l D (zRt cR) _ q cR ρ 0 a0 a1 v4 hc4) (cwV 3 hts (zg_V k_567 k_569 k_19 k_32 g_R_enter) rfl rfl rfl ⟨rfl, hd_R_enter⟩ ⟨Nat.le_of_ble_eq_true rfl, Nat.le_of_ble_eq_true rfl⟩) ⟨zrw_b _, va_recv hK hP (q0 := 0) rfl rfl, zrw_w hP hD hK hN _⟩ rfl rfl hl.1 rfl (lv_room (Nat.le_of_ble_eq_true rfl)) d_R_base_4 ⟨Nat.le_of_ble_eq_true rfl, Nat.le_of_ble_eq_true rfl⟩) hD hS hA (fun H locs hP hD hS => ?_)
  have hP : va_P D vwCl (zR q cR v4) H := hP
  have hD : va_D A (zR q cR v4) := hD
  refine lv_iconst (v := 0) hx hb d_R_base_7 (by decide) ?_
  refine lv_istore_n (lv' := [(3, .int 0), (0, .ref (q 0)), (1, .int a0), (2, .int a1)]) hx hb d_R_base_8 rfl hl (by decide) rfl (fun ls hl => ?_)
  obtain ⟨w9, hL9, hres⟩ := zo_b hres
  have hk9 : ∀ (u9 : Int32 × RSt), w9 = Sum.inr u9 → ∀ (H : Heap) (locs : List Loc), va_P D vwCl (zR q cR u9.2) H → va_D A (zR q cR u9.2) → va_S A s.heap H locs → ∀ (ls : Array Slot), lv_has ls 8 [(3, .int u9.1), (0, .ref (q 0)), (1, .int a0), (2, .int a1)] → W p l e (headSpec w_R_base ({ frames := 5, cells := 0, slots := 0, locals := 129 } : Room)).room s m ([.ref (q 0), .int a0, .int a1].toArray) below meth c H locs 0 0 (MQ below (qd_R_base D tys q cR ρ a0 a1 v A) ([.ref (q 0), .int a0, .int a1].toArray) s 0 0 A) (F0 m 170 ls []) := by
    intro u9 hu9 H locs hP hD hS ls hl
    subst hu9
    have hres := zs_r hres
    refine lv_iconst (v := 0) hx hb d_R_base_170 (by decide) ?_
    obtain rfl := Option.some.inj hres
    exact W.iret (v := 0) hx hb hr (fun t ht hW => ⟨⟨_, (), rfl, rfl, by rw [ht]; exact hP, va_K.moved hW.alike hK, hD⟩, hS.F ht⟩) hS.2.2 d_R_base_171
  have hloop9 : ∀ (n : Nat) (x9_3 : Int32) (g9 : RSt) (H : Heap) (locs : List Loc), va_P D vwCl (zR q cR g9) H → va_D A (zR q cR g9) → va_S A s.heap H locs → ∀ (ls : Array Slot), lv_has ls 8 [(3, .int x9_3), (0, .ref (q 0)), (1, .int a0), (2, .int a1)] → L_R_base_9 n x9_3 g9 = some w9 → W p l e (headSpec w_R_base ({ frames := 5, cells := 0, slots := 0, locals := 129 } : Room)).room s m ([.ref (q 0), .int a0, .int a1].toArray) below meth c H locs 0 0 (MQ below (qd_R_base D tys q cR ρ a0 a1 v A) ([.ref (q 0), .int a0, .int a1].toArray) s 0 0 A) (F0 m 9 ls []) := by
    intro n
    induction n with
    | zero => intro x9_3 g9 H locs hP hD hS ls hl hL9; cases hL9
    | succ n ih =>
      intro x9_3 g9 H locs hP hD hS ls hl hL9
      rw [L_R_base_9] at hL9
      refine lv_iload_n hx hb d_R_base_9 rfl (lv_at hl 0 rfl) ?_
      refine lv_if_lt (tgt := 170) hx hb d_R_base_10 (by decide) (fun c_10 => ?_) (fun c_10 => ?_)
      · have hL9 := zi_p c_10 hL9
        obtain rfl := Option.some.inj hL9
        exact hk9 _ rfl _ _ hP hD hS ls (lv_sub hl [0, 1, 2, 3] rfl)
      · have hL9 := zi_n c_10 hL9
        refine lv_aload_n hx hb d_R_base_13 rfl (lv_at hl 1 rfl) ?_
        refine lv_aload_n hx hb d_R_base_14 rfl (lv_at hl 1 rfl) ?_
        refine va_get (D := D) (ci := 4) (v := .ref (q 19)) (C := R_R) (T := T_R) (N := 23) hx hb hts in_R hown hK hP (0) rfl rfl 20 (by decide) (hts _ k_448) (fun _ h9 => h9) rfl d_R_base_15 ?_
        refine lv_iload_n hx hb d_R_base_18 rfl (lv_at hl 0 rfl) ?_
        by_cases ck_19 : zin x9_3 5
        · have hL9 := zi_p ck_19 hL9
          refine va_iald hx hb hK hP 19 18 rfl rfl ck_19 d_R_base_19 ?_
          refine lv_aload_n hx hb d_R_base_20 rfl (lv_at hl 1 rfl) ?_
          refine va_get (D := D) (ci := 4) (v := .ref (q 20)) (C := R_R) (T := T_R) (N := 23) hx hb hts in_R hown hK hP (0) rfl rfl 21 (by decide) (hts _ k_449) (fun _ h9 => h9) rfl d_R_base_21 ?_
          refine lv_iload_n hx hb d_R_base_24 rfl (lv_at hl 0 rfl) ?_
          by_cases ck_25 : zin x9_3 5
          · have hL9 := zi_p ck_25 hL9
            refine va_iald hx hb hK hP 20 19 rfl rfl ck_25 d_R_base_25 ?_
            refine lv_iconst (v := 0) hx hb d_R_base_26 (by decide) ?_
            obtain ⟨v27, hc27, hL9⟩ := zo_b hL9
            refine vp_callSi (va_Run.run (va_runV (As := [.int (g9.2.2.1.2 x9_3.toNatClampNeg), .int (g9.2.2.2.1 x9_3.toNatClampNeg), .int 0]) (rest := []) ⟨hx, hb, hml, hown, hts⟩ (c_R_meetOf l D (zRt cR) q cR g9 (g9.2.2.1.2 x9_3.toNatClampNeg) (g9.2.2.2.1 x9_3.toNatClampNeg) 0 v27 hc27) (cwV 3 hts (zg_V k_571 k_573 k_20 k_32 g_R_meetOf) rfl rfl rfl ⟨rfl, hd_R_meetOf⟩ ⟨Nat.le_of_ble_eq_true rfl, Nat.le_of_ble_eq_true rfl⟩) ⟨zro_b _, va_recv hK hP (q0 := 0) rfl rfl, zro_p hP hK hN _⟩ rfl rfl hl.1 rfl (lv_room (Nat.le_of_ble_eq_true rfl)) d_R_base_27 ⟨Nat.zero_le _, Nat.zero_le _⟩)) (fun r_27 er_27 => ?_)
            have er_27 := er_27.symm
            subst er_27
            refine lv_istore (lv' := [(4, .int v27), (3, .int x9_3), (0, .ref (q 0)), (1, .int a0), (2, .int a1)]) hx hb d_R_base_30 hl (by decide) rfl (fun ls hl => ?_)
            refine lv_iload hx hb d_R_base_32 (lv_at hl 0 rfl) ?_
            have hj68 : ∀ (j68_s0 : Int32) (H : Heap) (locs : List Loc), va_P D vwCl (zR q cR g9) H → va_D A (zR q cR g9) → va_S A s.heap H locs → ∀ (ls : Array Slot), lv_has ls 8 [(4, .int v27), (3, .int x9_3), (0, .ref (q 0)), (1, .int a0), (2, .int a1)] → J_R_base_68_2 x9_3 g9 v27 (L_R_base_9 n) j68_s0 = some w9 → W p l e (headSpec w_R_base ({ frames := 5, cells := 0, slots := 0, locals := 129 } : Room)).room s m ([.ref (q 0), .int a0, .int a1].toArray) below meth c H locs 0 0 (MQ below (qd_R_base D tys q cR ρ a0 a1 v A) ([.ref (q 0), .int a0, .int a1].toArray) s 0 0 A) (F0 m 68 ls [.int j68_s0]) := by
              intro j68_s0 H locs hP hD hS ls hl hL9
              unfold J_R_base_68_2 at hL9
              refine lv_istore (lv' := [(5, .int j68_s0), (4, .int v27), (3, .int x9_3), (0, .ref (q 0)), (1, .int a0), (2, .int a1)]) hx hb d_R_base_68 hl (by decide) rfl (fun ls hl => ?_)
              refine lv_iload hx hb d_R_base_70 (lv_at hl 0 rfl) ?_
              refine lv_if_lt (tgt := 90) hx hb d_R_base_72 (by decide) (fun c_72 => ?_) (fun c_72 => ?_)
              · have hL9 := zi_p c_72 hL9
                refine lv_iinc (v := (x9_3 + (-1))) (lv' := [(3, .int (x9_3 + (-1))), (5, .int j68_s0), (4, .int v27), (0, .ref (q 0)), (1, .int a0), (2, .int a1)]) hx hb d_R_base_90 hl (k := 2) rfl rfl (by decide) rfl (fun ls hl => ?_)
                refine lv_iload_n hx hb d_R_base_93 rfl (lv_at hl 0 rfl) ?_
                refine lv_if_lt (tgt := 167) hx hb d_R_base_94 (by decide) (fun c_94 => ?_) (fun c_94 => ?_)
                · have hL9 := zi_p c_94 hL9
                  refine lv_goto (tgt := 9) hx hb d_R_base_167 (by decide) ?_
                  exact ih (x9_3 + (-1)) g9 _ _ hP hD hS ls (lv_sub hl [0, 3, 4, 5] rfl) hL9
                · have hL9 := zi_n c_94 hL9
                  refine lv_aload_n hx hb d_R_base_97 rfl (lv_at hl 3 rfl) ?_
                  refine lv_aload_n hx hb d_R_base_98 rfl (lv_at hl 3 rfl) ?_
                  refine va_get (D := D) (ci := 4) (v := .ref (q 19)) (C := R_R) (T := T_R) (N := 23) hx hb hts in_R hown hK hP (0) rfl rfl 20 (by decide) (hts _ k_448) (fun _ h9 => h9) rfl d_R_base_99 ?_
                  refine lv_iload_n hx hb d_R_base_102 rfl (lv_at hl 0 rfl) ?_
                  by_cases ck_103 : zin (x9_3 + (-1)) 5
                  · have hL9 := zi_p ck_103 hL9
                    refine va_iald hx hb hK hP 19 18 rfl rfl ck_103 d_R_base_103 ?_
                    refine lv_aload_n hx hb d_R_base_104 rfl (lv_at hl 3 rfl) ?_
                    refine va_get (D := D) (ci := 4) (v := .ref (q 20)) (C := R_R) (T := T_R) (N := 23) hx hb hts in_R hown hK hP (0) rfl rfl 21 (by decide) (hts _ k_449) (fun _ h9 => h9) rfl d_R_base_105 ?_
                    refine lv_iload_n hx hb d_R_base_108 rfl (lv_at hl 0 rfl) ?_
                    by_cases ck_109 : zin (x9_3 + (-1)) 5
                    · have hL9 := zi_p ck_109 hL9
                      refine va_iald hx hb hK hP 20 19 rfl rfl ck_109 d_R_base_109 ?_
                      refine lv_aload_n hx hb d_R_base_110 rfl (lv_at hl 3 rfl) ?_
                      refine va_get (D := D) (ci := 4) (v := .ref (q 21)) (C := R_R) (T := T_R) (N := 23) hx hb hts in_R hown hK hP (0) rfl rfl 22 (by decide) (hts _ k_450) (fun _ h9 => h9) rfl d_R_base_111 ?_
                      refine lv_iload_n hx hb d_R_base_114 rfl (lv_at hl 0 rfl) ?_
                      by_cases ck_115 : zin (x9_3 + (-1)) 5
                      · have hL9 := zi_p ck_115 hL9
                        refine va_iald hx hb hK hP 21 20 rfl rfl ck_115 d_R_base_115 ?_
                        obtain ⟨v116, hc116, hL9⟩ := zo_b hL9
                        refine vp_callSi (va_Run.run (va_runV (As := [.int (g9.2.2.1.2 (x9_3 + (-1)).toNatClampNeg), .int (g9.2.2.2.1 (x9_3 + (-1)).toNatClampNeg), .int (g9.2.2.2.2 (x9_3 + (-1)).toNatClampNeg)]) (rest := []) ⟨hx, hb, hml, hown, hts⟩ (c_R_meetOf l D (zRt cR) q cR g9 (g9.2.2.1.2 (x9_3 + (-1)).toNatClampNeg) (g9.2.2.2.1 (x9_3 + (-1)).toNatClampNeg) (g9.2.2.2.2 (x9_3 + (-1)).toNatClampNeg) v116 hc116) (cwV 3 hts (zg_V k_571 k_573 k_20 k_32 g_R_meetOf) rfl rfl rfl ⟨rfl, hd_R_meetOf⟩ ⟨Nat.le_of_ble_eq_true rfl, Nat.le_of_ble_eq_true rfl⟩) ⟨zro_b _, va_recv hK hP (q0 := 0) rfl rfl, zro_p hP hK hN _⟩ rfl rfl hl.1 rfl (lv_room (Nat.le_of_ble_eq_true rfl)) d_R_base_116 ⟨Nat.zero_le _, Nat.zero_le _⟩)) (fun r_116 er_116 => ?_)
                        have er_116 := er_116.symm
                        subst er_116
                        refine lv_istore (lv' := [(6, .int v116), (3, .int (x9_3 + (-1))), (5, .int j68_s0), (4, .int v27), (0, .ref (q 0)), (1, .int a0), (2, .int a1)]) hx hb d_R_base_119 hl (by decide) rfl (fun ls hl => ?_)
                        refine lv_aload_n hx hb d_R_base_121 rfl (lv_at hl 4 rfl) ?_
                        refine lv_bipush (v := 60) hx hb d_R_base_122 (by decide) ?_
                        refine lv_iload_n hx hb d_R_base_124 rfl (lv_at hl 1 rfl) ?_
                        refine lv_iadd hx hb d_R_base_125 ?_
                        refine lv_iconst (v := 1) hx hb d_R_base_126 (by decide) ?_
                        refine lv_iadd hx hb d_R_base_127 ?_
                        refine lv_bipush (v := 60) hx hb d_R_base_128 (by decide) ?_
                        refine lv_iload_n hx hb d_R_base_130 rfl (lv_at hl 1 rfl) ?_
                        refine lv_iadd hx hb d_R_base_131 ?_
                        refine lv_iload hx hb d_R_base_132 (lv_at hl 0 rfl) ?_
                        obtain ⟨v134, hc134, hL9⟩ := zo_b hL9
                        refine zw_i (ws' := zR q cR v134.2) (v := v134.1) (va_runV (As := [.int ((60 + (x9_3 + (-1))) + 1), .int (60 + (x9_3 + (-1))), .int v116]) (rest := []) ⟨hx, hb, hml, hown, hts⟩ (c_R_mergeTrees l D (zRt cR) _ q cR g9 ((60 + (x9_3 + (-1))) + 1) (60 + (x9_3 + (-1))) v116 v134 hc134) (cwV 3 hts (zg_V k_575 k_577 k_21 k_32 g_R_mergeTrees) rfl rfl rfl ⟨rfl, hd_R_mergeTrees⟩ ⟨Nat.le_of_ble_eq_true rfl, Nat.le_of_ble_eq_true rfl⟩) ⟨zrw_b _, va_recv hK hP (q0 := 0) rfl rfl, zrw_w hP hD hK hN _⟩ rfl rfl hl.1 rfl (lv_room (Nat.le_of_ble_eq_true rfl)) d_R_base_134 ⟨Nat.le_of_ble_eq_true rfl, Nat.le_of_ble_eq_true rfl⟩) hD hS hA (fun H locs hP hD hS => ?_)
                        have hP : va_P D vwCl (zR q cR v134.2) H := hP
                        have hD : va_D A (zR q cR v134.2) := hD
                        refine lv_istore (lv' := [(7, .int v134.1), (6, .int v116), (3, .int (x9_3 + (-1))), (5, .int j68_s0), (4, .int v27), (0, .ref (q 0)), (1, .int a0), (2, .int a1)]) hx hb d_R_base_137 hl (by decide) rfl (fun ls hl => ?_)
                        refine lv_iload hx hb d_R_base_139 (lv_at hl 0 rfl) ?_
                        refine lv_if_eq (tgt := 147) hx hb d_R_base_141 (by decide) (fun c_141 => ?_) (fun c_141 => ?_)
                        · have hL9 := zi_p c_141 hL9
                          refine lv_aload_n hx hb d_R_base_147 rfl (lv_at hl 5 rfl) ?_
                          refine lv_bipush (v := 65) hx hb d_R_base_148 (by decide) ?_
                          refine lv_bipush (v := 60) hx hb d_R_base_150 (by decide) ?_
                          refine lv_iload_n hx hb d_R_base_152 rfl (lv_at hl 2 rfl) ?_
                          refine lv_iadd hx hb d_R_base_153 ?_
                          obtain ⟨v154, hc154, hL9⟩ := zo_b hL9
                          refine zw_v (ws' := zR q cR v154) (va_runV (As := [.int 65, .int (60 + (x9_3 + (-1)))]) (rest := []) ⟨hx, hb, hml, hown, hts⟩ (c_R_copy l D (zRt cR) _ q cR v134.2 65 (60 + (x9_3 + (-1))) v154 hc154) (cwV 2 hts (zg_V k_516 k_518 k_11 k_32 g_R_copy) rfl rfl rfl ⟨rfl, hd_R_copy⟩ ⟨Nat.le_of_ble_eq_true rfl, Nat.le_of_ble_eq_true rfl⟩) ⟨zrw_b _, va_recv hK hP (q0 := 0) rfl rfl, zrw_w hP hD hK hN _⟩ rfl rfl hl.1 rfl (lv_room (Nat.le_of_ble_eq_true rfl)) d_R_base_154 ⟨Nat.le_of_ble_eq_true rfl, Nat.le_of_ble_eq_true rfl⟩) hD hS hA (fun H locs hP hD hS => ?_)
                          have hP : va_P D vwCl (zR q cR v154) H := hP
                          have hD : va_D A (zR q cR v154) := hD
                          refine lv_aload_n hx hb d_R_base_157 rfl (lv_at hl 5 rfl) ?_
                          refine va_get (D := D) (ci := 4) (v := .ref (q 21)) (C := R_R) (T := T_R) (N := 23) hx hb hts in_R hown hK hP (0) rfl rfl 22 (by decide) (hts _ k_450) (fun _ h9 => h9) rfl d_R_base_158 ?_
                          refine lv_iload_n hx hb d_R_base_161 rfl (lv_at hl 2 rfl) ?_
                          refine lv_dup2_11 hx hb d_R_base_162 rfl rfl ?_
                          by_cases ck_163 : zin (x9_3 + (-1)) 5
                          · have hL9 := zi_p ck_163 hL9
                            refine va_iald hx hb hK hP 21 20 rfl rfl ck_163 d_R_base_163 ?_
                            refine lv_iconst (v := 1) hx hb d_R_base_164 (by decide) ?_
                            refine lv_iadd hx hb d_R_base_165 ?_
                            by_cases ck_166 : zin (x9_3 + (-1)) 5
                            · have hL9 := zi_p ck_166 hL9
                              refine va_iast hx hb hK hP hD hS 21 20 rfl rfl ck_166 d_R_base_166 (fun H locs hP hD hS => ?_)
                              have hP : va_P D vwCl ([(q 0, .inr (4, [.ref (q 1), .ref (q 2), .ref (q 3), .ref (q 4), .ref (q 5), .ref (q 6), .ref (q 7), .ref (q 8), .ref (q 9), .ref (q 10), .ref (q 11), .int v154.1.2.2.2, .ref (q 12), .ref (q 13), .ref (q 14), .ref (q 15), .ref (q 16), .ref (q 17), .int v154.2.2.1.1.1, .ref (q 18), .ref (q 19), .ref (q 20), .ref (q 21)])), (q 1, .inl (cR 1, 67, .inr (.inl v154.1.1.1.1.1))), (q 2, .inl (cR 2, 67, .inl v154.1.1.1.1.2)), (q 3, .inl (cR 3, 67, .inl v154.1.1.1.2)), (q 4, .inl (cR 4, 67, .inl v154.1.1.2.1.1)), (q 5, .inl (cR 5, 67, .inr (.inl v154.1.1.2.1.2))), (q 6, .inl (cR 6, 67, .inl v154.1.1.2.2)), (q 7, .inl (cR 7, 536, .inl v154.1.2.1.1.1)), (q 8, .inl (cR 8, 67, .inl v154.1.2.1.1.2)), (q 9, .inl (cR 9, 67, .inr (.inl v154.1.2.1.2))), (q 10, .inl (cR 10, 67, .inr (.inl v154.1.2.2.1.1))), (q 11, .inl (cR 11, 67, .inl v154.1.2.2.1.2)), (q 12, .inl (cR 12, 60, .inl v154.2.1.1.1.1)), (q 13, .inl (cR 13, 60, .inl v154.2.1.1.1.2)), (q 14, .inl (cR 14, 60, .inr (.inl v154.2.1.1.2))), (q 15, .inl (cR 15, 60, .inr (.inl v154.2.1.2.1.1))), (q 16, .inl (cR 16, 4, .inl v154.2.1.2.1.2)), (q 17, .inl (cR 17, 4, .inl v154.2.1.2.2)), (q 18, .inl (cR 18, 100, .inl v154.2.2.1.1.2)), (q 19, .inl (cR 19, 5, .inl v154.2.2.1.2)), (q 20, .inl (cR 20, 5, .inl v154.2.2.2.1)), (q 21, .inl (cR 21, 5, .inl (upd v154.2.2.2.2 (x9_3 + (-1)).toNatClampNeg ((v154.2.2.2.2 (x9_3 + (-1)).toNatClampNeg) + 1))))]) H := hP
                              have hD : va_D A ([(q 0, .inr (4, [.ref (q 1), .ref (q 2), .ref (q 3), .ref (q 4), .ref (q 5), .ref (q 6), .ref (q 7), .ref (q 8), .ref (q 9), .ref (q 10), .ref (q 11), .int v154.1.2.2.2, .ref (q 12), .ref (q 13), .ref (q 14), .ref (q 15), .ref (q 16), .ref (q 17), .int v154.2.2.1.1.1, .ref (q 18), .ref (q 19), .ref (q 20), .ref (q 21)])), (q 1, .inl (cR 1, 67, .inr (.inl v154.1.1.1.1.1))), (q 2, .inl (cR 2, 67, .inl v154.1.1.1.1.2)), (q 3, .inl (cR 3, 67, .inl v154.1.1.1.2)), (q 4, .inl (cR 4, 67, .inl v154.1.1.2.1.1)), (q 5, .inl (cR 5, 67, .inr (.inl v154.1.1.2.1.2))), (q 6, .inl (cR 6, 67, .inl v154.1.1.2.2)), (q 7, .inl (cR 7, 536, .inl v154.1.2.1.1.1)), (q 8, .inl (cR 8, 67, .inl v154.1.2.1.1.2)), (q 9, .inl (cR 9, 67, .inr (.inl v154.1.2.1.2))), (q 10, .inl (cR 10, 67, .inr (.inl v154.1.2.2.1.1))), (q 11, .inl (cR 11, 67, .inl v154.1.2.2.1.2)), (q 12, .inl (cR 12, 60, .inl v154.2.1.1.1.1)), (q 13, .inl (cR 13, 60, .inl v154.2.1.1.1.2)), (q 14, .inl (cR 14, 60, .inr (.inl v154.2.1.1.2))), (q 15, .inl (cR 15, 60, .inr (.inl v154.2.1.2.1.1))), (q 16, .inl (cR 16, 4, .inl v154.2.1.2.1.2)), (q 17, .inl (cR 17, 4, .inl v154.2.1.2.2)), (q 18, .inl (cR 18, 100, .inl v154.2.2.1.1.2)), (q 19, .inl (cR 19, 5, .inl v154.2.2.1.2)), (q 20, .inl (cR 20, 5, .inl v154.2.2.2.1)), (q 21, .inl (cR 21, 5, .inl (upd v154.2.2.2.2 (x9_3 + (-1)).toNatClampNeg ((v154.2.2.2.2 (x9_3 + (-1)).toNatClampNeg) + 1))))]) := hD
                              refine lv_goto (tgt := 9) hx hb d_R_base_167 (by decide) ?_
                              exact ih (x9_3 + (-1)) (((((v154.1.1.1.1.1, v154.1.1.1.1.2), v154.1.1.1.2), ((v154.1.1.2.1.1, v154.1.1.2.1.2), v154.1.1.2.2)), (((v154.1.2.1.1.1, v154.1.2.1.1.2), v154.1.2.1.2), ((v154.1.2.2.1.1, v154.1.2.2.1.2), v154.1.2.2.2))), ((((v154.2.1.1.1.1, v154.2.1.1.1.2), v154.2.1.1.2), ((v154.2.1.2.1.1, v154.2.1.2.1.2), v154.2.1.2.2)), (((v154.2.2.1.1.1, v154.2.2.1.1.2), v154.2.2.1.2), (v154.2.2.2.1, (upd v154.2.2.2.2 (x9_3 + (-1)).toNatClampNeg ((v154.2.2.2.2 (x9_3 + (-1)).toNatClampNeg) + 1)))))) _ _ hP hD hS ls (lv_sub hl [2, 5, 6, 7] rfl) hL9
                            · exact absurd (zi_n ck_166 hL9) (by simp)
                          · exact absurd (zi_n ck_163 hL9) (by simp)
                        · have hL9 := zi_n c_141 hL9
                          refine lv_iload hx hb d_R_base_144 (lv_at hl 0 rfl) ?_
                          obtain rfl := Option.some.inj hL9
                          obtain rfl := Option.some.inj hres
                          exact W.iret (v := v134.1) hx hb hr (fun t ht hW => ⟨⟨_, (), rfl, rfl, by rw [ht]; exact hP, va_K.moved hW.alike hK, hD⟩, hS.F ht⟩) hS.2.2 d_R_base_146
                      · exact absurd (zi_n ck_115 hL9) (by simp)
                    · exact absurd (zi_n ck_109 hL9) (by simp)
                  · exact absurd (zi_n ck_103 hL9) (by simp)
              · have hL9 := zi_n c_72 hL9
                refine lv_iinc (v := (x9_3 + 1)) (lv' := [(3, .int (x9_3 + 1)), (5, .int j68_s0), (4, .int v27), (0, .ref (q 0)), (1, .int a0), (2, .int a1)]) hx hb d_R_base_75 hl (k := 2) rfl rfl (by decide) rfl (fun ls hl => ?_)
                refine lv_aload_n hx hb d_R_base_78 rfl (lv_at hl 3 rfl) ?_
                refine lv_iload_n hx hb d_R_base_79 rfl (lv_at hl 0 rfl) ?_
                refine lv_iload hx hb d_R_base_80 (lv_at hl 2 rfl) ?_
                refine lv_iload hx hb d_R_base_82 (lv_at hl 1 rfl) ?_
                obtain ⟨v84, hc84, hL9⟩ := zo_b hL9
                refine zw_v (ws' := zR q cR v84) (va_runV (As := [.int (x9_3 + 1), .int v27, .int j68_s0]) (rest := []) ⟨hx, hb, hml, hown, hts⟩ (c_R_enter l D (zRt cR) _ q cR g9 (x9_3 + 1) v27 j68_s0 v84 hc84) (cwV 3 hts (zg_V k_567 k_569 k_19 k_32 g_R_enter) rfl rfl rfl ⟨rfl, hd_R_enter⟩ ⟨Nat.le_of_ble_eq_true rfl, Nat.le_of_ble_eq_true rfl⟩) ⟨zrw_b _, va_recv hK hP (q0 := 0) rfl rfl, zrw_w hP hD hK hN _⟩ rfl rfl hl.1 rfl (lv_room (Nat.le_of_ble_eq_true rfl)) d_R_base_84 ⟨Nat.le_of_ble_eq_true rfl, Nat.le_of_ble_eq_true rfl⟩) hD hS hA (fun H locs hP hD hS => ?_)
                have hP : va_P D vwCl (zR q cR v84) H := hP
                have hD : va_D A (zR q cR v84) := hD
                refine lv_goto (tgt := 167) hx hb d_R_base_87 (by decide) ?_
                refine lv_goto (tgt := 9) hx hb d_R_base_167 (by decide) ?_
                exact ih (x9_3 + 1) v84 _ _ hP hD hS ls (lv_sub hl [0, 3, 4, 5] rfl) hL9
            refine lv_if_lt (tgt := 42) hx hb d_R_base_34 (by decide) (fun c_34 => ?_) (fun c_34 => ?_)
            · have hL9 := zi_p c_34 hL9
              refine lv_iconst (v := (-1)) hx hb d_R_base_42 (by decide) ?_
              refine lv_goto (tgt := 68) hx hb d_R_base_43 (by decide) ?_
              exact hj68 (-1) _ _ hP hD hS ls (lv_sub hl [0, 1, 2, 3, 4] rfl) hL9
            · have hL9 := zi_n c_34 hL9
              refine lv_iload_n hx hb d_R_base_37 rfl (lv_at hl 1 rfl) ?_
              refine lv_iconst (v := 4) hx hb d_R_base_38 (by decide) ?_
              refine lv_icmp_ne (tgt := 46) hx hb d_R_base_39 (by decide) (fun c_39 => ?_) (fun c_39 => ?_)
              · have hL9 := zi_n c_39 hL9
                refine lv_aload_n hx hb d_R_base_46 rfl (lv_at hl 2 rfl) ?_
                refine lv_aload_n hx hb d_R_base_47 rfl (lv_at hl 2 rfl) ?_
                refine va_get (D := D) (ci := 4) (v := .ref (q 19)) (C := R_R) (T := T_R) (N := 23) hx hb hts in_R hown hK hP (0) rfl rfl 20 (by decide) (hts _ k_448) (fun _ h9 => h9) rfl d_R_base_48 ?_
                refine lv_iload_n hx hb d_R_base_51 rfl (lv_at hl 1 rfl) ?_
                by_cases ck_52 : zin x9_3 5
                · have hL9 := zi_p ck_52 hL9
                  refine va_iald hx hb hK hP 19 18 rfl rfl ck_52 d_R_base_52 ?_
                  refine lv_aload_n hx hb d_R_base_53 rfl (lv_at hl 2 rfl) ?_
                  refine va_get (D := D) (ci := 4) (v := .ref (q 20)) (C := R_R) (T := T_R) (N := 23) hx hb hts in_R hown hK hP (0) rfl rfl 21 (by decide) (hts _ k_449) (fun _ h9 => h9) rfl d_R_base_54 ?_
                  refine lv_iload_n hx hb d_R_base_57 rfl (lv_at hl 1 rfl) ?_
                  by_cases ck_58 : zin x9_3 5
                  · have hL9 := zi_p ck_58 hL9
                    refine va_iald hx hb hK hP 20 19 rfl rfl ck_58 d_R_base_58 ?_
                    refine lv_aload_n hx hb d_R_base_59 rfl (lv_at hl 2 rfl) ?_
                    refine va_get (D := D) (ci := 4) (v := .ref (q 21)) (C := R_R) (T := T_R) (N := 23) hx hb hts in_R hown hK hP (0) rfl rfl 22 (by decide) (hts _ k_450) (fun _ h9 => h9) rfl d_R_base_60 ?_
                    refine lv_iload_n hx hb d_R_base_63 rfl (lv_at hl 1 rfl) ?_
                    by_cases ck_64 : zin x9_3 5
                    · have hL9 := zi_p ck_64 hL9
                      refine va_iald hx hb hK hP 21 20 rfl rfl ck_64 d_R_base_64 ?_
                      obtain ⟨v65, hc65, hL9⟩ := zo_b hL9
                      refine vp_callSi (va_Run.run (va_runV (As := [.int (g9.2.2.1.2 x9_3.toNatClampNeg), .int (g9.2.2.2.1 x9_3.toNatClampNeg), .int (g9.2.2.2.2 x9_3.toNatClampNeg)]) (rest := []) ⟨hx, hb, hml, hown, hts⟩ (c_R_meetOf l D (zRt cR) q cR g9 (g9.2.2.1.2 x9_3.toNatClampNeg) (g9.2.2.2.1 x9_3.toNatClampNeg) (g9.2.2.2.2 x9_3.toNatClampNeg) v65 hc65) (cwV 3 hts (zg_V k_571 k_573 k_20 k_32 g_R_meetOf) rfl rfl rfl ⟨rfl, hd_R_meetOf⟩ ⟨Nat.le_of_ble_eq_true rfl, Nat.le_of_ble_eq_true rfl⟩) ⟨zro_b _, va_recv hK hP (q0 := 0) rfl rfl, zro_p hP hK hN _⟩ rfl rfl hl.1 rfl (lv_room (Nat.le_of_ble_eq_true rfl)) d_R_base_65 ⟨Nat.zero_le _, Nat.zero_le _⟩)) (fun r_65 er_65 => ?_)
                      have er_65 := er_65.symm
                      subst er_65
                      exact hj68 v65 _ _ hP hD hS ls (lv_sub hl [0, 1, 2, 3, 4] rfl) hL9
                    · exact absurd (zi_n ck_64 hL9) (by simp)
                  · exact absurd (zi_n ck_58 hL9) (by simp)
                · exact absurd (zi_n ck_52 hL9) (by simp)
              · have hL9 := zi_p c_39 hL9
                refine lv_iconst (v := (-1)) hx hb d_R_base_42 (by decide) ?_
                refine lv_goto (tgt := 68) hx hb d_R_base_43 (by decide) ?_
                exact hj68 (-1) _ _ hP hD hS ls (lv_sub hl [0, 1, 2, 3, 4] rfl) hL9
          · exact absurd (zi_n ck_25 hL9) (by simp)
        · exact absurd (zi_n ck_19 hL9) (by simp)
  exact hloop9 zfuel 0 v4 _ _ hP hD hS ls (lv_sub hl [0, 1, 2, 3] rfl) hL9
abbrev qd_R_commit (D : va_G) (tys : List (ClassId × FieldType)) (q : Nat → Nat) (cR : Nat → ClassId) (ρ : RSt) (a0 : Int32) (a1 : Int32) (v : Int32 × RSt) (A : Nat → Prop) : Array Value → State → Outcome → State → Prop := va_Qi (fun (r : Int32) (_ : Unit) => r = v.1) (fun _ t => zwd D (zRt cR) (A) (zR q cR v.2) t) (A)

def J_R_commit_63 (ρ : RSt) (a0 : Int32) (a1 : Int32) (v9 : RSt) (j48_s0 : Int64) (j63_s0 : Int64) : Option (Int32 × RSt) :=
  if zin ρ.1.2.2.2 60 then
    Option.bind (f_R_hashOf (((((v9.1.1.1.1.1, v9.1.1.1.1.2), v9.1.1.1.2), ((v9.1.1.2.1.1, v9.1.1.2.1.2), v9.1.1.2.2)), (((v9.1.2.1.1.1, v9.1.2.1.1.2), v9.1.2.1.2), ((v9.1.2.2.1.1, v9.1.2.2.1.2), v9.1.2.2.2))), (((((upd v9.2.1.1.1.1 ρ.1.2.2.2.toNatClampNeg a0), (upd v9.2.1.1.1.2 ρ.1.2.2.2.toNatClampNeg a1)), (vp_updL v9.2.1.1.2 ρ.1.2.2.2.toNatClampNeg (((zs_l 1 ρ.1.2.2.2) ||| j48_s0) ||| j63_s0))), ((v9.2.1.2.1.1, v9.2.1.2.1.2), v9.2.1.2.2)), (((v9.2.2.1.1.1, v9.2.2.1.1.2), v9.2.2.1.2), (v9.2.2.2.1, v9.2.2.2.2)))) ρ.1.2.2.2) (fun v72 =>
      if zin ρ.1.2.2.2 60 then
        some (ρ.1.2.2.2, (((((v9.1.1.1.1.1, v9.1.1.1.1.2), v9.1.1.1.2), ((v9.1.1.2.1.1, v9.1.1.2.1.2), v9.1.1.2.2)), (((v9.1.2.1.1.1, v9.1.2.1.1.2), v9.1.2.1.2), ((v9.1.2.2.1.1, v9.1.2.2.1.2), (v9.1.2.2.2 + 1)))), (((((upd v9.2.1.1.1.1 ρ.1.2.2.2.toNatClampNeg a0), (upd v9.2.1.1.1.2 ρ.1.2.2.2.toNatClampNeg a1)), (vp_updL v9.2.1.1.2 ρ.1.2.2.2.toNatClampNeg (((zs_l 1 ρ.1.2.2.2) ||| j48_s0) ||| j63_s0))), (((vp_updL v9.2.1.2.1.1 ρ.1.2.2.2.toNatClampNeg v72), v9.2.1.2.1.2), v9.2.1.2.2)), (((v9.2.2.1.1.1, v9.2.2.1.1.2), v9.2.2.1.2), (v9.2.2.2.1, v9.2.2.2.2)))))
      else
        none)
  else
    none
def J_R_commit_48 (ρ : RSt) (a0 : Int32) (a1 : Int32) (v9 : RSt) (j48_s0 : Int64) : Option (Int32 × RSt) :=
  if a1 < 0 then
    J_R_commit_63 ρ a0 a1 v9 j48_s0 0
  else
    if zin a1 60 then
      J_R_commit_63 ρ a0 a1 v9 j48_s0 (v9.2.1.1.2 a1.toNatClampNeg)
    else
      none
def f_R_commit (ρ : RSt) (a0 : Int32) (a1 : Int32) : Option (Int32 × RSt) :=
  Option.bind (f_R_copy ρ 65 ρ.1.2.2.2) (fun v9 =>
    if zin ρ.1.2.2.2 60 then
      if zin ρ.1.2.2.2 60 then
        if a0 < 0 then
          J_R_commit_48 ρ a0 a1 v9 0
        else
          if zin a0 60 then
            J_R_commit_48 ρ a0 a1 v9 (v9.2.1.1.2 a0.toNatClampNeg)
          else
            none
      else
        none
    else
      none)
set_option maxHeartbeats 4000000 in
set_option maxRecDepth 100000 in
theorem c_R_commit (l : Launch) (D : va_G) (tys : List (ClassId × FieldType)) (sz : Nat) (q : Nat → Nat) (cR : Nat → ClassId) (ρ : RSt) (a0 : Int32) (a1 : Int32) (v : Int32 × RSt) (hres : f_R_commit ρ a0 a1 = some v) : Met l y_R_commit w_R_commit ({ frames := 2, cells := 0, slots := 0, locals := 52 } : Room) (va_Pc ([.ref (q 0), .int a0, .int a1]) (zrw D (zRt cR) sz (zR q cR ρ))) (qd_R_commit D tys q cR ρ a0 a1 v (va_A (zR q cR ρ) sz)) 0 0 (va_A (zR q cR ρ) sz) := by
  refine Met.ofW (cc := b_R_commit) (maxL := 4) (ret := (some .int)) (by decide) rfl ?_
  intro p e s m args below meth c s₁ B hml hv
  obtain ⟨rfl, hsz, hP, hK, hD0, hN⟩ := hv
  have hx := B.exec
  have hb := B.bytes
  have hr := B.returns
  have hts : ∀ w ∈ zt, w.before ([.ref (q 0), .int a0, .int a1].toArray) s = true := fun w h => atoms_spec (ws := w_R_commit) B.pre w (List.mem_cons_of_mem _ h)
  have hown : s.vm.findClass R_R = some m.cls := findClass_of_methodNamed B.named
  have hlocks := B.notSynchronized
  subst hsz
  have hD := hD0.self (sz := s.heap.size)
  generalize hAe : va_A (zR q cR ρ) s.heap.size = A at hD ⊢
  have hA : ∀ q : Nat, s.heap.size ≤ q → A q := fun q h => by rw [← hAe]; exact Or.inr h
  have hS : va_S A s.heap s.heap [] := va_S.rf
  have hP : va_P D vwCl (zR q cR ρ) s.heap := hP
  have hD : va_D A (zR q cR ρ) := hD
  have hl := lv_entry ([.ref (q 0), .int a0, .int a1]) (n := 4) (Nat.le_of_ble_eq_true rfl)
  rw [lg_entry_eq]
  generalize (lg_sl ([.ref (q 0), .int a0, .int a1]) ++ List.replicate (4 - (lg_sl ([.ref (q 0), .int a0, .int a1])).length) Slot.unset).toArray = ls at hl ⊢
  have hl : lv_has ls 4 [(0, .ref (q 0)), (1, .int a0), (2, .int a1)] := hl
  unfold f_R_commit at hres
  refine lv_aload_n hx hb d_R_commit_0 rfl (lv_at hl 0 rfl) ?_
  refine va_get (D := D) (ci := 4) (v := .int ρ.1.2.2.2) (C := R_R) (T := T_R) (N := 23) hx hb hts in_R hown hK hP (0) rfl rfl 11 (by decide) (hts _ k_439) (fun _ h9 => h9) rfl d_R_commit_1 ?_
  refine lv_istore_n (lv' := [(3, .int ρ.1.2.2.2), (0, .ref (q 0)), (1, .int a0), (2, .int a1)]) hx hb d_R_commit_4 rfl hl (by decide) rfl (fun ls hl => ?_)
  refine lv_aload_n hx hb d_R_commit_5 rfl (lv_at hl 1 rfl) ?_
  refine lv_bipush (v := 65) hx hb d_R_commit_6 (by decide) ?_
  refine lv_iload_n hx hb d_R_commit_8 rfl (lv_at hl 0 rfl) ?_
  obtain ⟨v9, hc9, hres⟩ := zo_b hres
  refine zw_v (ws' := zR q cR v9) (va_runV (As := [.int 65, .int ρ.1.2.2.2]) (rest := []) ⟨hx, hb, hml, hown, hts⟩ (c_R_copy l D (zRt cR) _ q cR ρ 65 ρ.1.2.2.2 v9 hc9) (cwV 2 hts (zg_V k_516 k_518 k_11 k_32 g_R_copy) rfl rfl rfl ⟨rfl, hd_R_copy⟩ ⟨Nat.le_of_ble_eq_true rfl, Nat.le_of_ble_eq_true rfl⟩) ⟨zrw_b _, va_recv hK hP (q0 := 0) rfl rfl, zrw_w hP hD hK hN _⟩ rfl rfl hl.1 rfl (lv_room (Nat.le_of_ble_eq_true rfl)) d_R_commit_9 ⟨Nat.le_of_ble_eq_true rfl, Nat.le_of_ble_eq_true rfl⟩) hD hS hA (fun H locs hP hD hS => ?_)
  have hP : va_P D vwCl (zR q cR v9) H := hP
  have hD : va_D A (zR q cR v9) := hD
  refine lv_aload_n hx hb d_R_commit_12 rfl (lv_at hl 1 rfl) ?_
  refine va_get (D := D) (ci := 4) (v := .ref (q 12)) (C := R_R) (T := T_R) (N := 23) hx hb hts in_R hown hK hP (0) rfl rfl 12 (by decide) (hts _ k_440) (fun _ h9 => h9) rfl d_R_commit_13 ?_
  refine lv_iload_n hx hb d_R_commit_16 rfl (lv_at hl 0 rfl) ?_
  refine lv_iload_n hx hb d_R_commit_17 rfl (lv_at hl 2 rfl) ?_
  by_cases ck_18 : zin ρ.1.2.2.2 60
  · have hres := zi_p ck_18 hres
    refine va_iast hx hb hK hP hD hS 12 11 rfl rfl ck_18 d_R_commit_18 (fun H locs hP hD hS => ?_)
    have hP : va_P D vwCl ([(q 0, .inr (4, [.ref (q 1), .ref (q 2), .ref (q 3), .ref (q 4), .ref (q 5), .ref (q 6), .ref (q 7), .ref (q 8), .ref (q 9), .ref (q 10), .ref (q 11), .int v9.1.2.2.2, .ref (q 12), .ref (q 13), .ref (q 14), .ref (q 15), .ref (q 16), .ref (q 17), .int v9.2.2.1.1.1, .ref (q 18), .ref (q 19), .ref (q 20), .ref (q 21)])), (q 1, .inl (cR 1, 67, .inr (.inl v9.1.1.1.1.1))), (q 2, .inl (cR 2, 67, .inl v9.1.1.1.1.2)), (q 3, .inl (cR 3, 67, .inl v9.1.1.1.2)), (q 4, .inl (cR 4, 67, .inl v9.1.1.2.1.1)), (q 5, .inl (cR 5, 67, .inr (.inl v9.1.1.2.1.2))), (q 6, .inl (cR 6, 67, .inl v9.1.1.2.2)), (q 7, .inl (cR 7, 536, .inl v9.1.2.1.1.1)), (q 8, .inl (cR 8, 67, .inl v9.1.2.1.1.2)), (q 9, .inl (cR 9, 67, .inr (.inl v9.1.2.1.2))), (q 10, .inl (cR 10, 67, .inr (.inl v9.1.2.2.1.1))), (q 11, .inl (cR 11, 67, .inl v9.1.2.2.1.2)), (q 12, .inl (cR 12, 60, .inl (upd v9.2.1.1.1.1 ρ.1.2.2.2.toNatClampNeg a0))), (q 13, .inl (cR 13, 60, .inl v9.2.1.1.1.2)), (q 14, .inl (cR 14, 60, .inr (.inl v9.2.1.1.2))), (q 15, .inl (cR 15, 60, .inr (.inl v9.2.1.2.1.1))), (q 16, .inl (cR 16, 4, .inl v9.2.1.2.1.2)), (q 17, .inl (cR 17, 4, .inl v9.2.1.2.2)), (q 18, .inl (cR 18, 100, .inl v9.2.2.1.1.2)), (q 19, .inl (cR 19, 5, .inl v9.2.2.1.2)), (q 20, .inl (cR 20, 5, .inl v9.2.2.2.1)), (q 21, .inl (cR 21, 5, .inl v9.2.2.2.2))]) H := hP
    have hD : va_D A ([(q 0, .inr (4, [.ref (q 1), .ref (q 2), .ref (q 3), .ref (q 4), .ref (q 5), .ref (q 6), .ref (q 7), .ref (q 8), .ref (q 9), .ref (q 10), .ref (q 11), .int v9.1.2.2.2, .ref (q 12), .ref (q 13), .ref (q 14), .ref (q 15), .ref (q 16), .ref (q 17), .int v9.2.2.1.1.1, .ref (q 18), .ref (q 19), .ref (q 20), .ref (q 21)])), (q 1, .inl (cR 1, 67, .inr (.inl v9.1.1.1.1.1))), (q 2, .inl (cR 2, 67, .inl v9.1.1.1.1.2)), (q 3, .inl (cR 3, 67, .inl v9.1.1.1.2)), (q 4, .inl (cR 4, 67, .inl v9.1.1.2.1.1)), (q 5, .inl (cR 5, 67, .inr (.inl v9.1.1.2.1.2))), (q 6, .inl (cR 6, 67, .inl v9.1.1.2.2)), (q 7, .inl (cR 7, 536, .inl v9.1.2.1.1.1)), (q 8, .inl (cR 8, 67, .inl v9.1.2.1.1.2)), (q 9, .inl (cR 9, 67, .inr (.inl v9.1.2.1.2))), (q 10, .inl (cR 10, 67, .inr (.inl v9.1.2.2.1.1))), (q 11, .inl (cR 11, 67, .inl v9.1.2.2.1.2)), (q 12, .inl (cR 12, 60, .inl (upd v9.2.1.1.1.1 ρ.1.2.2.2.toNatClampNeg a0))), (q 13, .inl (cR 13, 60, .inl v9.2.1.1.1.2)), (q 14, .inl (cR 14, 60, .inr (.inl v9.2.1.1.2))), (q 15, .inl (cR 15, 60, .inr (.inl v9.2.1.2.1.1))), (q 16, .inl (cR 16, 4, .inl v9.2.1.2.1.2)), (q 17, .inl (cR 17, 4, .inl v9.2.1.2.2)), (q 18, .inl (cR 18, 100, .inl v9.2.2.1.1.2)), (q 19, .inl (cR 19, 5, .inl v9.2.2.1.2)), (q 20, .inl (cR 20, 5, .inl v9.2.2.2.1)), (q 21, .inl (cR 21, 5, .inl v9.2.2.2.2))]) := hD
    refine lv_aload_n hx hb d_R_commit_19 rfl (lv_at hl 1 rfl) ?_
    refine va_get (D := D) (ci := 4) (v := .ref (q 13)) (C := R_R) (T := T_R) (N := 23) hx hb hts in_R hown hK hP (0) rfl rfl 13 (by decide) (hts _ k_441) (fun _ h9 => h9) rfl d_R_commit_20 ?_
    refine lv_iload_n hx hb d_R_commit_23 rfl (lv_at hl 0 rfl) ?_
    refine lv_iload_n hx hb d_R_commit_24 rfl (lv_at hl 3 rfl) ?_
    by_cases ck_25 : zin ρ.1.2.2.2 60
    · have hres := zi_p ck_25 hres
      refine va_iast hx hb hK hP hD hS 13 12 rfl rfl ck_25 d_R_commit_25 (fun H locs hP hD hS => ?_)
      have hP : va_P D vwCl ([(q 0, .inr (4, [.ref (q 1), .ref (q 2), .ref (q 3), .ref (q 4), .ref (q 5), .ref (q 6), .ref (q 7), .ref (q 8), .ref (q 9), .ref (q 10), .ref (q 11), .int v9.1.2.2.2, .ref (q 12), .ref (q 13), .ref (q 14), .ref (q 15), .ref (q 16), .ref (q 17), .int v9.2.2.1.1.1, .ref (q 18), .ref (q 19), .ref (q 20), .ref (q 21)])), (q 1, .inl (cR 1, 67, .inr (.inl v9.1.1.1.1.1))), (q 2, .inl (cR 2, 67, .inl v9.1.1.1.1.2)), (q 3, .inl (cR 3, 67, .inl v9.1.1.1.2)), (q 4, .inl (cR 4, 67, .inl v9.1.1.2.1.1)), (q 5, .inl (cR 5, 67, .inr (.inl v9.1.1.2.1.2))), (q 6, .inl (cR 6, 67, .inl v9.1.1.2.2)), (q 7, .inl (cR 7, 536, .inl v9.1.2.1.1.1)), (q 8, .inl (cR 8, 67, .inl v9.1.2.1.1.2)), (q 9, .inl (cR 9, 67, .inr (.inl v9.1.2.1.2))), (q 10, .inl (cR 10, 67, .inr (.inl v9.1.2.2.1.1))), (q 11, .inl (cR 11, 67, .inl v9.1.2.2.1.2)), (q 12, .inl (cR 12, 60, .inl (upd v9.2.1.1.1.1 ρ.1.2.2.2.toNatClampNeg a0))), (q 13, .inl (cR 13, 60, .inl (upd v9.2.1.1.1.2 ρ.1.2.2.2.toNatClampNeg a1))), (q 14, .inl (cR 14, 60, .inr (.inl v9.2.1.1.2))), (q 15, .inl (cR 15, 60, .inr (.inl v9.2.1.2.1.1))), (q 16, .inl (cR 16, 4, .inl v9.2.1.2.1.2)), (q 17, .inl (cR 17, 4, .inl v9.2.1.2.2)), (q 18, .inl (cR 18, 100, .inl v9.2.2.1.1.2)), (q 19, .inl (cR 19, 5, .inl v9.2.2.1.2)), (q 20, .inl (cR 20, 5, .inl v9.2.2.2.1)), (q 21, .inl (cR 21, 5, .inl v9.2.2.2.2))]) H := hP
      have hD : va_D A ([(q 0, .inr (4, [.ref (q 1), .ref (q 2), .ref (q 3), .ref (q 4), .ref (q 5), .ref (q 6), .ref (q 7), .ref (q 8), .ref (q 9), .ref (q 10), .ref (q 11), .int v9.1.2.2.2, .ref (q 12), .ref (q 13), .ref (q 14), .ref (q 15), .ref (q 16), .ref (q 17), .int v9.2.2.1.1.1, .ref (q 18), .ref (q 19), .ref (q 20), .ref (q 21)])), (q 1, .inl (cR 1, 67, .inr (.inl v9.1.1.1.1.1))), (q 2, .inl (cR 2, 67, .inl v9.1.1.1.1.2)), (q 3, .inl (cR 3, 67, .inl v9.1.1.1.2)), (q 4, .inl (cR 4, 67, .inl v9.1.1.2.1.1)), (q 5, .inl (cR 5, 67, .inr (.inl v9.1.1.2.1.2))), (q 6, .inl (cR 6, 67, .inl v9.1.1.2.2)), (q 7, .inl (cR 7, 536, .inl v9.1.2.1.1.1)), (q 8, .inl (cR 8, 67, .inl v9.1.2.1.1.2)), (q 9, .inl (cR 9, 67, .inr (.inl v9.1.2.1.2))), (q 10, .inl (cR 10, 67, .inr (.inl v9.1.2.2.1.1))), (q 11, .inl (cR 11, 67, .inl v9.1.2.2.1.2)), (q 12, .inl (cR 12, 60, .inl (upd v9.2.1.1.1.1 ρ.1.2.2.2.toNatClampNeg a0))), (q 13, .inl (cR 13, 60, .inl (upd v9.2.1.1.1.2 ρ.1.2.2.2.toNatClampNeg a1))), (q 14, .inl (cR 14, 60, .inr (.inl v9.2.1.1.2))), (q 15, .inl (cR 15, 60, .inr (.inl v9.2.1.2.1.1))), (q 16, .inl (cR 16, 4, .inl v9.2.1.2.1.2)), (q 17, .inl (cR 17, 4, .inl v9.2.1.2.2)), (q 18, .inl (cR 18, 100, .inl v9.2.2.1.1.2)), (q 19, .inl (cR 19, 5, .inl v9.2.2.1.2)), (q 20, .inl (cR 20, 5, .inl v9.2.2.2.1)), (q 21, .inl (cR 21, 5, .inl v9.2.2.2.2))]) := hD
      refine lv_aload_n hx hb d_R_commit_26 rfl (lv_at hl 1 rfl) ?_
      refine va_get (D := D) (ci := 4) (v := .ref (q 14)) (C := R_R) (T := T_R) (N := 23) hx hb hts in_R hown hK hP (0) rfl rfl 14 (by decide) (hts _ k_442) (fun _ h9 => h9) rfl d_R_commit_27 ?_
      refine lv_iload_n hx hb d_R_commit_30 rfl (lv_at hl 0 rfl) ?_
      refine lv_lconst (v := 1) hx hb d_R_commit_31 (by decide) ?_
      refine lv_iload_n hx hb d_R_commit_32 rfl (lv_at hl 0 rfl) ?_
      refine lv_lshl (v := (zs_l 1 ρ.1.2.2.2)) hx hb d_R_commit_33 rfl ?_
      refine lv_iload_n hx hb d_R_commit_34 rfl (lv_at hl 2 rfl) ?_
      have hj48 : ∀ (j48_s0 : Int64) (H : Heap) (locs : List Loc), va_P D vwCl ([(q 0, .inr (4, [.ref (q 1), .ref (q 2), .ref (q 3), .ref (q 4), .ref (q 5), .ref (q 6), .ref (q 7), .ref (q 8), .ref (q 9), .ref (q 10), .ref (q 11), .int v9.1.2.2.2, .ref (q 12), .ref (q 13), .ref (q 14), .ref (q 15), .ref (q 16), .ref (q 17), .int v9.2.2.1.1.1, .ref (q 18), .ref (q 19), .ref (q 20), .ref (q 21)])), (q 1, .inl (cR 1, 67, .inr (.inl v9.1.1.1.1.1))), (q 2, .inl (cR 2, 67, .inl v9.1.1.1.1.2)), (q 3, .inl (cR 3, 67, .inl v9.1.1.1.2)), (q 4, .inl (cR 4, 67, .inl v9.1.1.2.1.1)), (q 5, .inl (cR 5, 67, .inr (.inl v9.1.1.2.1.2))), (q 6, .inl (cR 6, 67, .inl v9.1.1.2.2)), (q 7, .inl (cR 7, 536, .inl v9.1.2.1.1.1)), (q 8, .inl (cR 8, 67, .inl v9.1.2.1.1.2)), (q 9, .inl (cR 9, 67, .inr (.inl v9.1.2.1.2))), (q 10, .inl (cR 10, 67, .inr (.inl v9.1.2.2.1.1))), (q 11, .inl (cR 11, 67, .inl v9.1.2.2.1.2)), (q 12, .inl (cR 12, 60, .inl (upd v9.2.1.1.1.1 ρ.1.2.2.2.toNatClampNeg a0))), (q 13, .inl (cR 13, 60, .inl (upd v9.2.1.1.1.2 ρ.1.2.2.2.toNatClampNeg a1))), (q 14, .inl (cR 14, 60, .inr (.inl v9.2.1.1.2))), (q 15, .inl (cR 15, 60, .inr (.inl v9.2.1.2.1.1))), (q 16, .inl (cR 16, 4, .inl v9.2.1.2.1.2)), (q 17, .inl (cR 17, 4, .inl v9.2.1.2.2)), (q 18, .inl (cR 18, 100, .inl v9.2.2.1.1.2)), (q 19, .inl (cR 19, 5, .inl v9.2.2.1.2)), (q 20, .inl (cR 20, 5, .inl v9.2.2.2.1)), (q 21, .inl (cR 21, 5, .inl v9.2.2.2.2))]) H → va_D A ([(q 0, .inr (4, [.ref (q 1), .ref (q 2), .ref (q 3), .ref (q 4), .ref (q 5), .ref (q 6), .ref (q 7), .ref (q 8), .ref (q 9), .ref (q 10), .ref (q 11), .int v9.1.2.2.2, .ref (q 12), .ref (q 13), .ref (q 14), .ref (q 15), .ref (q 16), .ref (q 17), .int v9.2.2.1.1.1, .ref (q 18), .ref (q 19), .ref (q 20), .ref (q 21)])), (q 1, .inl (cR 1, 67, .inr (.inl v9.1.1.1.1.1))), (q 2, .inl (cR 2, 67, .inl v9.1.1.1.1.2)), (q 3, .inl (cR 3, 67, .inl v9.1.1.1.2)), (q 4, .inl (cR 4, 67, .inl v9.1.1.2.1.1)), (q 5, .inl (cR 5, 67, .inr (.inl v9.1.1.2.1.2))), (q 6, .inl (cR 6, 67, .inl v9.1.1.2.2)), (q 7, .inl (cR 7, 536, .inl v9.1.2.1.1.1)), (q 8, .inl (cR 8, 67, .inl v9.1.2.1.1.2)), (q 9, .inl (cR 9, 67, .inr (.inl v9.1.2.1.2))), (q 10, .inl (cR 10, 67, .inr (.inl v9.1.2.2.1.1))), (q 11, .inl (cR 11, 67, .inl v9.1.2.2.1.2)), (q 12, .inl (cR 12, 60, .inl (upd v9.2.1.1.1.1 ρ.1.2.2.2.toNatClampNeg a0))), (q 13, .inl (cR 13, 60, .inl (upd v9.2.1.1.1.2 ρ.1.2.2.2.toNatClampNeg a1))), (q 14, .inl (cR 14, 60, .inr (.inl v9.2.1.1.2))), (q 15, .inl (cR 15, 60, .inr (.inl v9.2.1.2.1.1))), (q 16, .inl (cR 16, 4, .inl v9.2.1.2.1.2)), (q 17, .inl (cR 17, 4, .inl v9.2.1.2.2)), (q 18, .inl (cR 18, 100, .inl v9.2.2.1.1.2)), (q 19, .inl (cR 19, 5, .inl v9.2.2.1.2)), (q 20, .inl (cR 20, 5, .inl v9.2.2.2.1)), (q 21, .inl (cR 21, 5, .inl v9.2.2.2.2))]) → va_S A s.heap H locs → ∀ (ls : Array Slot), lv_has ls 4 [(3, .int ρ.1.2.2.2), (0, .ref (q 0)), (1, .int a0), (2, .int a1)] → J_R_commit_48 ρ a0 a1 v9 j48_s0 = some v → W p l e (headSpec w_R_commit ({ frames := 2, cells := 0, slots := 0, locals := 52 } : Room)).room s m ([.ref (q 0), .int a0, .int a1].toArray) below meth c H locs 0 0 (MQ below (qd_R_commit D tys q cR ρ a0 a1 v A) ([.ref (q 0), .int a0, .int a1].toArray) s 0 0 A) (F0 m 48 ls [.long j48_s0, .long (zs_l 1 ρ.1.2.2.2), .int ρ.1.2.2.2, .ref (q 14)]) := by
        intro j48_s0 H locs hP hD hS ls hl hres
        unfold J_R_commit_48 at hres
        refine lv_lor hx hb d_R_commit_48 ?_
        refine lv_iload_n hx hb d_R_commit_49 rfl (lv_at hl 3 rfl) ?_
        have hj63 : ∀ (j63_s0 : Int64) (H : Heap) (locs : List Loc), va_P D vwCl ([(q 0, .inr (4, [.ref (q 1), .ref (q 2), .ref (q 3), .ref (q 4), .ref (q 5), .ref (q 6), .ref (q 7), .ref (q 8), .ref (q 9), .ref (q 10), .ref (q 11), .int v9.1.2.2.2, .ref (q 12), .ref (q 13), .ref (q 14), .ref (q 15), .ref (q 16), .ref (q 17), .int v9.2.2.1.1.1, .ref (q 18), .ref (q 19), .ref (q 20), .ref (q 21)])), (q 1, .inl (cR 1, 67, .inr (.inl v9.1.1.1.1.1))), (q 2, .inl (cR 2, 67, .inl v9.1.1.1.1.2)), (q 3, .inl (cR 3, 67, .inl v9.1.1.1.2)), (q 4, .inl (cR 4, 67, .inl v9.1.1.2.1.1)), (q 5, .inl (cR 5, 67, .inr (.inl v9.1.1.2.1.2))), (q 6, .inl (cR 6, 67, .inl v9.1.1.2.2)), (q 7, .inl (cR 7, 536, .inl v9.1.2.1.1.1)), (q 8, .inl (cR 8, 67, .inl v9.1.2.1.1.2)), (q 9, .inl (cR 9, 67, .inr (.inl v9.1.2.1.2))), (q 10, .inl (cR 10, 67, .inr (.inl v9.1.2.2.1.1))), (q 11, .inl (cR 11, 67, .inl v9.1.2.2.1.2)), (q 12, .inl (cR 12, 60, .inl (upd v9.2.1.1.1.1 ρ.1.2.2.2.toNatClampNeg a0))), (q 13, .inl (cR 13, 60, .inl (upd v9.2.1.1.1.2 ρ.1.2.2.2.toNatClampNeg a1))), (q 14, .inl (cR 14, 60, .inr (.inl v9.2.1.1.2))), (q 15, .inl (cR 15, 60, .inr (.inl v9.2.1.2.1.1))), (q 16, .inl (cR 16, 4, .inl v9.2.1.2.1.2)), (q 17, .inl (cR 17, 4, .inl v9.2.1.2.2)), (q 18, .inl (cR 18, 100, .inl v9.2.2.1.1.2)), (q 19, .inl (cR 19, 5, .inl v9.2.2.1.2)), (q 20, .inl (cR 20, 5, .inl v9.2.2.2.1)), (q 21, .inl (cR 21, 5, .inl v9.2.2.2.2))]) H → va_D A ([(q 0, .inr (4, [.ref (q 1), .ref (q 2), .ref (q 3), .ref (q 4), .ref (q 5), .ref (q 6), .ref (q 7), .ref (q 8), .ref (q 9), .ref (q 10), .ref (q 11), .int v9.1.2.2.2, .ref (q 12), .ref (q 13), .ref (q 14), .ref (q 15), .ref (q 16), .ref (q 17), .int v9.2.2.1.1.1, .ref (q 18), .ref (q 19), .ref (q 20), .ref (q 21)])), (q 1, .inl (cR 1, 67, .inr (.inl v9.1.1.1.1.1))), (q 2, .inl (cR 2, 67, .inl v9.1.1.1.1.2)), (q 3, .inl (cR 3, 67, .inl v9.1.1.1.2)), (q 4, .inl (cR 4, 67, .inl v9.1.1.2.1.1)), (q 5, .inl (cR 5, 67, .inr (.inl v9.1.1.2.1.2))), (q 6, .inl (cR 6, 67, .inl v9.1.1.2.2)), (q 7, .inl (cR 7, 536, .inl v9.1.2.1.1.1)), (q 8, .inl (cR 8, 67, .inl v9.1.2.1.1.2)), (q 9, .inl (cR 9, 67, .inr (.inl v9.1.2.1.2))), (q 10, .inl (cR 10, 67, .inr (.inl v9.1.2.2.1.1))), (q 11, .inl (cR 11, 67, .inl v9.1.2.2.1.2)), (q 12, .inl (cR 12, 60, .inl (upd v9.2.1.1.1.1 ρ.1.2.2.2.toNatClampNeg a0))), (q 13, .inl (cR 13, 60, .inl (upd v9.2.1.1.1.2 ρ.1.2.2.2.toNatClampNeg a1))), (q 14, .inl (cR 14, 60, .inr (.inl v9.2.1.1.2))), (q 15, .inl (cR 15, 60, .inr (.inl v9.2.1.2.1.1))), (q 16, .inl (cR 16, 4, .inl v9.2.1.2.1.2)), (q 17, .inl (cR 17, 4, .inl v9.2.1.2.2)), (q 18, .inl (cR 18, 100, .inl v9.2.2.1.1.2)), (q 19, .inl (cR 19, 5, .inl v9.2.2.1.2)), (q 20, .inl (cR 20, 5, .inl v9.2.2.2.1)), (q 21, .inl (cR 21, 5, .inl v9.2.2.2.2))]) → va_S A s.heap H locs → ∀ (ls : Array Slot), lv_has ls 4 [(3, .int ρ.1.2.2.2), (0, .ref (q 0)), (1, .int a0), (2, .int a1)] → J_R_commit_63 ρ a0 a1 v9 j48_s0 j63_s0 = some v → W p l e (headSpec w_R_commit ({ frames := 2, cells := 0, slots := 0, locals := 52 } : Room)).room s m ([.ref (q 0), .int a0, .int a1].toArray) below meth c H locs 0 0 (MQ below (qd_R_commit D tys q cR ρ a0 a1 v A) ([.ref (q 0), .int a0, .int a1].toArray) s 0 0 A) (F0 m 63 ls [.long j63_s0, .long ((zs_l 1 ρ.1.2.2.2) ||| j48_s0), .int ρ.1.2.2.2, .ref (q 14)]) := by
          intro j63_s0 H locs hP hD hS ls hl hres
          unfold J_R_commit_63 at hres
          refine lv_lor hx hb d_R_commit_63 ?_
          by_cases ck_64 : zin ρ.1.2.2.2 60
          · have hres := zi_p ck_64 hres
            refine va_last hx hb hK hP hD hS 14 13 rfl rfl ck_64 d_R_commit_64 (fun H locs hP hD hS => ?_)
            have hP : va_P D vwCl ([(q 0, .inr (4, [.ref (q 1), .ref (q 2), .ref (q 3), .ref (q 4), .ref (q 5), .ref (q 6), .ref (q 7), .ref (q 8), .ref (q 9), .ref (q 10), .ref (q 11), .int v9.1.2.2.2, .ref (q 12), .ref (q 13), .ref (q 14), .ref (q 15), .ref (q 16), .ref (q 17), .int v9.2.2.1.1.1, .ref (q 18), .ref (q 19), .ref (q 20), .ref (q 21)])), (q 1, .inl (cR 1, 67, .inr (.inl v9.1.1.1.1.1))), (q 2, .inl (cR 2, 67, .inl v9.1.1.1.1.2)), (q 3, .inl (cR 3, 67, .inl v9.1.1.1.2)), (q 4, .inl (cR 4, 67, .inl v9.1.1.2.1.1)), (q 5, .inl (cR 5, 67, .inr (.inl v9.1.1.2.1.2))), (q 6, .inl (cR 6, 67, .inl v9.1.1.2.2)), (q 7, .inl (cR 7, 536, .inl v9.1.2.1.1.1)), (q 8, .inl (cR 8, 67, .inl v9.1.2.1.1.2)), (q 9, .inl (cR 9, 67, .inr (.inl v9.1.2.1.2))), (q 10, .inl (cR 10, 67, .inr (.inl v9.1.2.2.1.1))), (q 11, .inl (cR 11, 67, .inl v9.1.2.2.1.2)), (q 12, .inl (cR 12, 60, .inl (upd v9.2.1.1.1.1 ρ.1.2.2.2.toNatClampNeg a0))), (q 13, .inl (cR 13, 60, .inl (upd v9.2.1.1.1.2 ρ.1.2.2.2.toNatClampNeg a1))), (q 14, .inl (cR 14, 60, .inr (.inl (vp_updL v9.2.1.1.2 ρ.1.2.2.2.toNatClampNeg (((zs_l 1 ρ.1.2.2.2) ||| j48_s0) ||| j63_s0))))), (q 15, .inl (cR 15, 60, .inr (.inl v9.2.1.2.1.1))), (q 16, .inl (cR 16, 4, .inl v9.2.1.2.1.2)), (q 17, .inl (cR 17, 4, .inl v9.2.1.2.2)), (q 18, .inl (cR 18, 100, .inl v9.2.2.1.1.2)), (q 19, .inl (cR 19, 5, .inl v9.2.2.1.2)), (q 20, .inl (cR 20, 5, .inl v9.2.2.2.1)), (q 21, .inl (cR 21, 5, .inl v9.2.2.2.2))]) H := hP
            have hD : va_D A ([(q 0, .inr (4, [.ref (q 1), .ref (q 2), .ref (q 3), .ref (q 4), .ref (q 5), .ref (q 6), .ref (q 7), .ref (q 8), .ref (q 9), .ref (q 10), .ref (q 11), .int v9.1.2.2.2, .ref (q 12), .ref (q 13), .ref (q 14), .ref (q 15), .ref (q 16), .ref (q 17), .int v9.2.2.1.1.1, .ref (q 18), .ref (q 19), .ref (q 20), .ref (q 21)])), (q 1, .inl (cR 1, 67, .inr (.inl v9.1.1.1.1.1))), (q 2, .inl (cR 2, 67, .inl v9.1.1.1.1.2)), (q 3, .inl (cR 3, 67, .inl v9.1.1.1.2)), (q 4, .inl (cR 4, 67, .inl v9.1.1.2.1.1)), (q 5, .inl (cR 5, 67, .inr (.inl v9.1.1.2.1.2))), (q 6, .inl (cR 6, 67, .inl v9.1.1.2.2)), (q 7, .inl (cR 7, 536, .inl v9.1.2.1.1.1)), (q 8, .inl (cR 8, 67, .inl v9.1.2.1.1.2)), (q 9, .inl (cR 9, 67, .inr (.inl v9.1.2.1.2))), (q 10, .inl (cR 10, 67, .inr (.inl v9.1.2.2.1.1))), (q 11, .inl (cR 11, 67, .inl v9.1.2.2.1.2)), (q 12, .inl (cR 12, 60, .inl (upd v9.2.1.1.1.1 ρ.1.2.2.2.toNatClampNeg a0))), (q 13, .inl (cR 13, 60, .inl (upd v9.2.1.1.1.2 ρ.1.2.2.2.toNatClampNeg a1))), (q 14, .inl (cR 14, 60, .inr (.inl (vp_updL v9.2.1.1.2 ρ.1.2.2.2.toNatClampNeg (((zs_l 1 ρ.1.2.2.2) ||| j48_s0) ||| j63_s0))))), (q 15, .inl (cR 15, 60, .inr (.inl v9.2.1.2.1.1))), (q 16, .inl (cR 16, 4, .inl v9.2.1.2.1.2)), (q 17, .inl (cR 17, 4, .inl v9.2.1.2.2)), (q 18, .inl (cR 18, 100, .inl v9.2.2.1.1.2)), (q 19, .inl (cR 19, 5, .inl v9.2.2.1.2)), (q 20, .inl (cR 20, 5, .inl v9.2.2.2.1)), (q 21, .inl (cR 21, 5, .inl v9.2.2.2.2))]) := hD
            refine lv_aload_n hx hb d_R_commit_65 rfl (lv_at hl 1 rfl) ?_
            refine va_get (D := D) (ci := 4) (v := .ref (q 15)) (C := R_R) (T := T_R) (N := 23) hx hb hts in_R hown hK hP (0) rfl rfl 15 (by decide) (hts _ k_443) (fun _ h9 => h9) rfl d_R_commit_66 ?_
            refine lv_iload_n hx hb d_R_commit_69 rfl (lv_at hl 0 rfl) ?_
            refine lv_aload_n hx hb d_R_commit_70 rfl (lv_at hl 1 rfl) ?_
            refine lv_iload_n hx hb d_R_commit_71 rfl (lv_at hl 0 rfl) ?_
            obtain ⟨v72, hc72, hres⟩ := zo_b hres
            refine vp_callSl (va_Run.run (va_runV (As := [.int ρ.1.2.2.2]) (rest := [.int ρ.1.2.2.2, .ref (q 15)]) ⟨hx, hb, hml, hown, hts⟩ (c_R_hashOf l D (zRt cR) q cR (((((v9.1.1.1.1.1, v9.1.1.1.1.2), v9.1.1.1.2), ((v9.1.1.2.1.1, v9.1.1.2.1.2), v9.1.1.2.2)), (((v9.1.2.1.1.1, v9.1.2.1.1.2), v9.1.2.1.2), ((v9.1.2.2.1.1, v9.1.2.2.1.2), v9.1.2.2.2))), (((((upd v9.2.1.1.1.1 ρ.1.2.2.2.toNatClampNeg a0), (upd v9.2.1.1.1.2 ρ.1.2.2.2.toNatClampNeg a1)), (vp_updL v9.2.1.1.2 ρ.1.2.2.2.toNatClampNeg (((zs_l 1 ρ.1.2.2.2) ||| j48_s0) ||| j63_s0))), ((v9.2.1.2.1.1, v9.2.1.2.1.2), v9.2.1.2.2)), (((v9.2.2.1.1.1, v9.2.2.1.1.2), v9.2.2.1.2), (v9.2.2.2.1, v9.2.2.2.2)))) ρ.1.2.2.2 v72 hc72) (cwV 1 hts (zg_V k_528 k_530 k_14 k_32 g_R_hashOf) rfl rfl rfl ⟨rfl, hd_R_hashOf⟩ ⟨Nat.le_of_ble_eq_true rfl, Nat.le_of_ble_eq_true rfl⟩) ⟨zro_b _, va_recv hK hP (q0 := 0) rfl rfl, zro_p hP hK hN _⟩ rfl rfl hl.1 rfl (lv_room (Nat.le_of_ble_eq_true rfl)) d_R_commit_72 ⟨Nat.zero_le _, Nat.zero_le _⟩)) (fun r_72 er_72 => ?_)
            have er_72 := er_72.symm
            subst er_72
            by_cases ck_75 : zin ρ.1.2.2.2 60
            · have hres := zi_p ck_75 hres
              refine va_last hx hb hK hP hD hS 15 14 rfl rfl ck_75 d_R_commit_75 (fun H locs hP hD hS => ?_)
              have hP : va_P D vwCl ([(q 0, .inr (4, [.ref (q 1), .ref (q 2), .ref (q 3), .ref (q 4), .ref (q 5), .ref (q 6), .ref (q 7), .ref (q 8), .ref (q 9), .ref (q 10), .ref (q 11), .int v9.1.2.2.2, .ref (q 12), .ref (q 13), .ref (q 14), .ref (q 15), .ref (q 16), .ref (q 17), .int v9.2.2.1.1.1, .ref (q 18), .ref (q 19), .ref (q 20), .ref (q 21)])), (q 1, .inl (cR 1, 67, .inr (.inl v9.1.1.1.1.1))), (q 2, .inl (cR 2, 67, .inl v9.1.1.1.1.2)), (q 3, .inl (cR 3, 67, .inl v9.1.1.1.2)), (q 4, .inl (cR 4, 67, .inl v9.1.1.2.1.1)), (q 5, .inl (cR 5, 67, .inr (.inl v9.1.1.2.1.2))), (q 6, .inl (cR 6, 67, .inl v9.1.1.2.2)), (q 7, .inl (cR 7, 536, .inl v9.1.2.1.1.1)), (q 8, .inl (cR 8, 67, .inl v9.1.2.1.1.2)), (q 9, .inl (cR 9, 67, .inr (.inl v9.1.2.1.2))), (q 10, .inl (cR 10, 67, .inr (.inl v9.1.2.2.1.1))), (q 11, .inl (cR 11, 67, .inl v9.1.2.2.1.2)), (q 12, .inl (cR 12, 60, .inl (upd v9.2.1.1.1.1 ρ.1.2.2.2.toNatClampNeg a0))), (q 13, .inl (cR 13, 60, .inl (upd v9.2.1.1.1.2 ρ.1.2.2.2.toNatClampNeg a1))), (q 14, .inl (cR 14, 60, .inr (.inl (vp_updL v9.2.1.1.2 ρ.1.2.2.2.toNatClampNeg (((zs_l 1 ρ.1.2.2.2) ||| j48_s0) ||| j63_s0))))), (q 15, .inl (cR 15, 60, .inr (.inl (vp_updL v9.2.1.2.1.1 ρ.1.2.2.2.toNatClampNeg v72)))), (q 16, .inl (cR 16, 4, .inl v9.2.1.2.1.2)), (q 17, .inl (cR 17, 4, .inl v9.2.1.2.2)), (q 18, .inl (cR 18, 100, .inl v9.2.2.1.1.2)), (q 19, .inl (cR 19, 5, .inl v9.2.2.1.2)), (q 20, .inl (cR 20, 5, .inl v9.2.2.2.1)), (q 21, .inl (cR 21, 5, .inl v9.2.2.2.2))]) H := hP
              have hD : va_D A ([(q 0, .inr (4, [.ref (q 1), .ref (q 2), .ref (q 3), .ref (q 4), .ref (q 5), .ref (q 6), .ref (q 7), .ref (q 8), .ref (q 9), .ref (q 10), .ref (q 11), .int v9.1.2.2.2, .ref (q 12), .ref (q 13), .ref (q 14), .ref (q 15), .ref (q 16), .ref (q 17), .int v9.2.2.1.1.1, .ref (q 18), .ref (q 19), .ref (q 20), .ref (q 21)])), (q 1, .inl (cR 1, 67, .inr (.inl v9.1.1.1.1.1))), (q 2, .inl (cR 2, 67, .inl v9.1.1.1.1.2)), (q 3, .inl (cR 3, 67, .inl v9.1.1.1.2)), (q 4, .inl (cR 4, 67, .inl v9.1.1.2.1.1)), (q 5, .inl (cR 5, 67, .inr (.inl v9.1.1.2.1.2))), (q 6, .inl (cR 6, 67, .inl v9.1.1.2.2)), (q 7, .inl (cR 7, 536, .inl v9.1.2.1.1.1)), (q 8, .inl (cR 8, 67, .inl v9.1.2.1.1.2)), (q 9, .inl (cR 9, 67, .inr (.inl v9.1.2.1.2))), (q 10, .inl (cR 10, 67, .inr (.inl v9.1.2.2.1.1))), (q 11, .inl (cR 11, 67, .inl v9.1.2.2.1.2)), (q 12, .inl (cR 12, 60, .inl (upd v9.2.1.1.1.1 ρ.1.2.2.2.toNatClampNeg a0))), (q 13, .inl (cR 13, 60, .inl (upd v9.2.1.1.1.2 ρ.1.2.2.2.toNatClampNeg a1))), (q 14, .inl (cR 14, 60, .inr (.inl (vp_updL v9.2.1.1.2 ρ.1.2.2.2.toNatClampNeg (((zs_l 1 ρ.1.2.2.2) ||| j48_s0) ||| j63_s0))))), (q 15, .inl (cR 15, 60, .inr (.inl (vp_updL v9.2.1.2.1.1 ρ.1.2.2.2.toNatClampNeg v72)))), (q 16, .inl (cR 16, 4, .inl v9.2.1.2.1.2)), (q 17, .inl (cR 17, 4, .inl v9.2.1.2.2)), (q 18, .inl (cR 18, 100, .inl v9.2.2.1.1.2)), (q 19, .inl (cR 19, 5, .inl v9.2.2.1.2)), (q 20, .inl (cR 20, 5, .inl v9.2.2.2.1)), (q 21, .inl (cR 21, 5, .inl v9.2.2.2.2))]) := hD
              refine lv_aload_n hx hb d_R_commit_76 rfl (lv_at hl 1 rfl) ?_
              refine lv_dup hx hb d_R_commit_77 rfl ?_
              refine va_get (D := D) (ci := 4) (v := .int v9.1.2.2.2) (C := R_R) (T := T_R) (N := 23) hx hb hts in_R hown hK hP (0) rfl rfl 11 (by decide) (hts _ k_439) (fun _ h9 => h9) rfl d_R_commit_78 ?_
              refine lv_iconst (v := 1) hx hb d_R_commit_81 (by decide) ?_
              refine lv_iadd hx hb d_R_commit_82 ?_
              refine va_put (D := D) (ci := 4) (v := .int (v9.1.2.2.2 + 1)) (ty := .int) (C := R_R) (T := T_R) (N := 23) hx hb hts in_R ty_R ok_R nm_R hown hK hP hD hS 0 rfl rfl 11 (by decide) (hts _ k_439) (fun _ h9 => h9) rfl (by decide +kernel) rfl rfl (Nat.le_of_ble_eq_true rfl) d_R_commit_83 (fun H locs hP hD hS => ?_)
              have hP : va_P D vwCl ([(q 0, .inr (4, [.ref (q 1), .ref (q 2), .ref (q 3), .ref (q 4), .ref (q 5), .ref (q 6), .ref (q 7), .ref (q 8), .ref (q 9), .ref (q 10), .ref (q 11), .int (v9.1.2.2.2 + 1), .ref (q 12), .ref (q 13), .ref (q 14), .ref (q 15), .ref (q 16), .ref (q 17), .int v9.2.2.1.1.1, .ref (q 18), .ref (q 19), .ref (q 20), .ref (q 21)])), (q 1, .inl (cR 1, 67, .inr (.inl v9.1.1.1.1.1))), (q 2, .inl (cR 2, 67, .inl v9.1.1.1.1.2)), (q 3, .inl (cR 3, 67, .inl v9.1.1.1.2)), (q 4, .inl (cR 4, 67, .inl v9.1.1.2.1.1)), (q 5, .inl (cR 5, 67, .inr (.inl v9.1.1.2.1.2))), (q 6, .inl (cR 6, 67, .inl v9.1.1.2.2)), (q 7, .inl (cR 7, 536, .inl v9.1.2.1.1.1)), (q 8, .inl (cR 8, 67, .inl v9.1.2.1.1.2)), (q 9, .inl (cR 9, 67, .inr (.inl v9.1.2.1.2))), (q 10, .inl (cR 10, 67, .inr (.inl v9.1.2.2.1.1))), (q 11, .inl (cR 11, 67, .inl v9.1.2.2.1.2)), (q 12, .inl (cR 12, 60, .inl (upd v9.2.1.1.1.1 ρ.1.2.2.2.toNatClampNeg a0))), (q 13, .inl (cR 13, 60, .inl (upd v9.2.1.1.1.2 ρ.1.2.2.2.toNatClampNeg a1))), (q 14, .inl (cR 14, 60, .inr (.inl (vp_updL v9.2.1.1.2 ρ.1.2.2.2.toNatClampNeg (((zs_l 1 ρ.1.2.2.2) ||| j48_s0) ||| j63_s0))))), (q 15, .inl (cR 15, 60, .inr (.inl (vp_updL v9.2.1.2.1.1 ρ.1.2.2.2.toNatClampNeg v72)))), (q 16, .inl (cR 16, 4, .inl v9.2.1.2.1.2)), (q 17, .inl (cR 17, 4, .inl v9.2.1.2.2)), (q 18, .inl (cR 18, 100, .inl v9.2.2.1.1.2)), (q 19, .inl (cR 19, 5, .inl v9.2.2.1.2)), (q 20, .inl (cR 20, 5, .inl v9.2.2.2.1)), (q 21, .inl (cR 21, 5, .inl v9.2.2.2.2))]) H := hP
              have hD : va_D A ([(q 0, .inr (4, [.ref (q 1), .ref (q 2), .ref (q 3), .ref (q 4), .ref (q 5), .ref (q 6), .ref (q 7), .ref (q 8), .ref (q 9), .ref (q 10), .ref (q 11), .int (v9.1.2.2.2 + 1), .ref (q 12), .ref (q 13), .ref (q 14), .ref (q 15), .ref (q 16), .ref (q 17), .int v9.2.2.1.1.1, .ref (q 18), .ref (q 19), .ref (q 20), .ref (q 21)])), (q 1, .inl (cR 1, 67, .inr (.inl v9.1.1.1.1.1))), (q 2, .inl (cR 2, 67, .inl v9.1.1.1.1.2)), (q 3, .inl (cR 3, 67, .inl v9.1.1.1.2)), (q 4, .inl (cR 4, 67, .inl v9.1.1.2.1.1)), (q 5, .inl (cR 5, 67, .inr (.inl v9.1.1.2.1.2))), (q 6, .inl (cR 6, 67, .inl v9.1.1.2.2)), (q 7, .inl (cR 7, 536, .inl v9.1.2.1.1.1)), (q 8, .inl (cR 8, 67, .inl v9.1.2.1.1.2)), (q 9, .inl (cR 9, 67, .inr (.inl v9.1.2.1.2))), (q 10, .inl (cR 10, 67, .inr (.inl v9.1.2.2.1.1))), (q 11, .inl (cR 11, 67, .inl v9.1.2.2.1.2)), (q 12, .inl (cR 12, 60, .inl (upd v9.2.1.1.1.1 ρ.1.2.2.2.toNatClampNeg a0))), (q 13, .inl (cR 13, 60, .inl (upd v9.2.1.1.1.2 ρ.1.2.2.2.toNatClampNeg a1))), (q 14, .inl (cR 14, 60, .inr (.inl (vp_updL v9.2.1.1.2 ρ.1.2.2.2.toNatClampNeg (((zs_l 1 ρ.1.2.2.2) ||| j48_s0) ||| j63_s0))))), (q 15, .inl (cR 15, 60, .inr (.inl (vp_updL v9.2.1.2.1.1 ρ.1.2.2.2.toNatClampNeg v72)))), (q 16, .inl (cR 16, 4, .inl v9.2.1.2.1.2)), (q 17, .inl (cR 17, 4, .inl v9.2.1.2.2)), (q 18, .inl (cR 18, 100, .inl v9.2.2.1.1.2)), (q 19, .inl (cR 19, 5, .inl v9.2.2.1.2)), (q 20, .inl (cR 20, 5, .inl v9.2.2.2.1)), (q 21, .inl (cR 21, 5, .inl v9.2.2.2.2))]) := hD
              refine lv_iload_n hx hb d_R_commit_86 rfl (lv_at hl 0 rfl) ?_
              obtain rfl := Option.some.inj hres
              exact W.iret (v := ρ.1.2.2.2) hx hb hr (fun t ht hW => ⟨⟨_, (), rfl, rfl, by rw [ht]; exact hP, va_K.moved hW.alike hK, hD⟩, hS.F ht⟩) hS.2.2 d_R_commit_87
            · exact absurd (zi_n ck_75 hres) (by simp)
          · exact absurd (zi_n ck_64 hres) (by simp)
        refine lv_if_lt (tgt := 62) hx hb d_R_commit_50 (by decide) (fun c_50 => ?_) (fun c_50 => ?_)
        · have hres := zi_p c_50 hres
          refine lv_lconst (v := 0) hx hb d_R_commit_62 (by decide) ?_
          exact hj63 0 _ _ hP hD hS ls (lv_sub hl [0, 1, 2, 3] rfl) hres
        · have hres := zi_n c_50 hres
          refine lv_aload_n hx hb d_R_commit_53 rfl (lv_at hl 1 rfl) ?_
          refine va_get (D := D) (ci := 4) (v := .ref (q 14)) (C := R_R) (T := T_R) (N := 23) hx hb hts in_R hown hK hP (0) rfl rfl 14 (by decide) (hts _ k_442) (fun _ h9 => h9) rfl d_R_commit_54 ?_
          refine lv_iload_n hx hb d_R_commit_57 rfl (lv_at hl 3 rfl) ?_
          by_cases ck_58 : zin a1 60
          · have hres := zi_p ck_58 hres
            refine va_lald hx hb hK hP 14 13 rfl rfl ck_58 d_R_commit_58 ?_
            refine lv_goto (tgt := 63) hx hb d_R_commit_59 (by decide) ?_
            exact hj63 (v9.2.1.1.2 a1.toNatClampNeg) _ _ hP hD hS ls (lv_sub hl [0, 1, 2, 3] rfl) hres
          · exact absurd (zi_n ck_58 hres) (by simp)
      refine lv_if_lt (tgt := 47) hx hb d_R_commit_35 (by decide) (fun c_35 => ?_) (fun c_35 => ?_)
      · have hres := zi_p c_35 hres
        refine lv_lconst (v := 0) hx hb d_R_commit_47 (by decide) ?_
        exact hj48 0 _ _ hP hD hS ls (lv_sub hl [0, 1, 2, 3] rfl) hres
      · have hres := zi_n c_35 hres
        refine lv_aload_n hx hb d_R_commit_38 rfl (lv_at hl 1 rfl) ?_
        refine va_get (D := D) (ci := 4) (v := .ref (q 14)) (C := R_R) (T := T_R) (N := 23) hx hb hts in_R hown hK hP (0) rfl rfl 14 (by decide) (hts _ k_442) (fun _ h9 => h9) rfl d_R_commit_39 ?_
        refine lv_iload_n hx hb d_R_commit_42 rfl (lv_at hl 2 rfl) ?_
        by_cases ck_43 : zin a0 60
        · have hres := zi_p ck_43 hres
          refine va_lald hx hb hK hP 14 13 rfl rfl ck_43 d_R_commit_43 ?_
          refine lv_goto (tgt := 48) hx hb d_R_commit_44 (by decide) ?_
          exact hj48 (v9.2.1.1.2 a0.toNatClampNeg) _ _ hP hD hS ls (lv_sub hl [0, 1, 2, 3] rfl) hres
        · exact absurd (zi_n ck_43 hres) (by simp)
    · exact absurd (zi_n ck_25 hres) (by simp)
  · exact absurd (zi_n ck_18 hres) (by simp)
abbrev qd_R_merge (D : va_G) (tys : List (ClassId × FieldType)) (q : Nat → Nat) (cR : Nat → ClassId) (ρ : RSt) (a0 : Int32) (a1 : Int32) (v : Int32 × RSt) (A : Nat → Prop) : Array Value → State → Outcome → State → Prop := va_Qi (fun (r : Int32) (_ : Unit) => r = v.1) (fun _ t => zwd D (zRt cR) (A) (zR q cR v.2) t) (A)

def J_R_merge_113 (ρ : RSt) (a0 : Int32) (a1 : Int32) (j113_5 : Int32) (j113_g : RSt) : Option (Int32 × RSt) :=
  if j113_5 = 0 then
    Option.bind (f_R_commit j113_g (ρ.2.1.2.1.2 a1.toNatClampNeg) (ρ.2.1.2.1.2 a0.toNatClampNeg)) (fun v125 =>
      Option.bind (f_R_move v125.2 a1 v125.1) (fun v134 =>
        some (v125.1, v134)))
  else
    some (j113_5, j113_g)
def f_R_merge (ρ : RSt) (a0 : Int32) (a1 : Int32) : Option (Int32 × RSt) :=
  Option.bind (f_R_isBranch a0) (fun v1 =>
    if v1 = 0 then
      some ((-1), ρ)
    else
      Option.bind (f_R_isBranch a1) (fun v8 =>
        if v8 = 0 then
          some ((-1), ρ)
        else
          if zin a0 4 then
            if 0 ≤ (ρ.2.1.2.1.2 a0.toNatClampNeg) then
              if zin a1 4 then
                if zin a0 4 then
                  if (ρ.2.1.2.1.2 a1.toNatClampNeg) < 0 then
                    Option.bind (f_R_move ρ a1 (ρ.2.1.2.1.2 a0.toNatClampNeg)) (fun v58 =>
                      some ((ρ.2.1.2.1.2 a0.toNatClampNeg), v58))
                  else
                    Option.bind (f_R_isAbove ρ (ρ.2.1.2.1.2 a1.toNatClampNeg) (ρ.2.1.2.1.2 a0.toNatClampNeg)) (fun v48 =>
                      if v48 = 0 then
                        Option.bind (f_R_isAbove ρ (ρ.2.1.2.1.2 a0.toNatClampNeg) (ρ.2.1.2.1.2 a1.toNatClampNeg)) (fun v68 =>
                          if v68 = 0 then
                            if ρ.1.2.2.2 = 60 then
                              some ((-2), ρ)
                            else
                              Option.bind (f_R_base ρ (ρ.2.1.2.1.2 a1.toNatClampNeg) (ρ.2.1.2.1.2 a0.toNatClampNeg)) (fun v92 =>
                                if v92.1 = 0 then
                                  Option.bind (f_R_mergeTrees v92.2 60 (ρ.2.1.2.1.2 a1.toNatClampNeg) (ρ.2.1.2.1.2 a0.toNatClampNeg)) (fun v108 =>
                                    J_R_merge_113 ρ a0 a1 v108.1 v108.2)
                                else
                                  J_R_merge_113 ρ a0 a1 v92.1 v92.2)
                          else
                            some ((ρ.2.1.2.1.2 a1.toNatClampNeg), ρ))
                      else
                        Option.bind (f_R_move ρ a1 (ρ.2.1.2.1.2 a0.toNatClampNeg)) (fun v58 =>
                          some ((ρ.2.1.2.1.2 a0.toNatClampNeg), v58)))
                else
                  none
              else
                none
            else
              some ((-1), ρ)
          else
            none))
set_option maxHeartbeats 4000000 in
set_option maxRecDepth 100000 in
theorem c_R_merge (l : Launch) (D : va_G) (tys : List (ClassId × FieldType)) (sz : Nat) (q : Nat → Nat) (cR : Nat → ClassId) (ρ : RSt) (a0 : Int32) (a1 : Int32) (v : Int32 × RSt) (hres : f_R_merge ρ a0 a1 = some v) : Met l y_R_merge w_R_merge ({ frames := 6, cells := 0, slots := 0, locals := 156 } : Room) (va_Pc ([.ref (q 0), .int a0, .int a1]) (zrw D (zRt cR) sz (zR q cR ρ))) (qd_R_merge D tys q cR ρ a0 a1 v (va_A (zR q cR ρ) sz)) 0 0 (va_A (zR q cR ρ) sz) := by
  refine Met.ofW (cc := b_R_merge) (maxL := 7) (ret := (some .int)) (by decide) rfl ?_
  intro p e s m args below meth c s₁ B hml hv
  obtain ⟨rfl, hsz, hP, hK, hD0, hN⟩ := hv
  have hx := B.exec
  have hb := B.bytes
  have hr := B.returns
  have hts : ∀ w ∈ zt, w.before ([.ref (q 0), .int a0, .int a1].toArray) s = true := fun w h => atoms_spec (ws := w_R_merge) B.pre w (List.mem_cons_of_mem _ h)
  have hown : s.vm.findClass R_R = some m.cls := findClass_of_methodNamed B.named
  have hlocks := B.notSynchronized
  subst hsz
  have hD := hD0.self (sz := s.heap.size)
  generalize hAe : va_A (zR q cR ρ) s.heap.size = A at hD ⊢
  have hA : ∀ q : Nat, s.heap.size ≤ q → A q := fun q h => by rw [← hAe]; exact Or.inr h
  have hS : va_S A s.heap s.heap [] := va_S.rf
  have hP : va_P D vwCl (zR q cR ρ) s.heap := hP
  have hD : va_D A (zR q cR ρ) := hD
  have hl := lv_entry ([.ref (q 0), .int a0, .int a1]) (n := 7) (Nat.le_of_ble_eq_true rfl)
  rw [lg_entry_eq]
  generalize (lg_sl ([.ref (q 0), .int a0, .int a1]) ++ List.replicate (7 - (lg_sl ([.ref (q 0), .int a0, .int a1])).length) Slot.unset).toArray = ls at hl ⊢
  have hl : lv_has ls 7 [(0, .ref (q 0)), (1, .int a0), (2, .int a1)] := hl
  unfold f_R_merge at hres
  refine lv_iload_n hx hb d_R_merge_0 rfl (lv_at hl 1 rfl) ?_
  obtain ⟨v1, hc1, hres⟩ := zo_b hres
  refine vp_callSi (va_Run.run (va_runS (As := [.int a0]) (rest := []) ⟨hx, hb, hml, hown, hts⟩ (c_R_isBranch l D (zRt cR) a0 v1 hc1) (va_cwS 1 hts (zg_S k_505 k_506 k_32 g_R_isBranch) rfl rfl rfl hd_R_isBranch ⟨Nat.le_of_ble_eq_true rfl, Nat.le_of_ble_eq_true rfl⟩) ⟨zro_b _, zro_p va_Pnil hK hN _⟩ rfl rfl hl.1 rfl (lv_room (Nat.le_of_ble_eq_true rfl)) d_R_merge_1 ⟨Nat.zero_le _, Nat.zero_le _⟩)) (fun r_1 er_1 => ?_)
  have er_1 := er_1.symm
  subst er_1
  refine lv_if_eq (tgt := 23) hx hb d_R_merge_4 (by decide) (fun c_4 => ?_) (fun c_4 => ?_)
  · have hres := zi_p c_4 hres
    refine lv_iconst (v := (-1)) hx hb d_R_merge_23 (by decide) ?_
    obtain rfl := Option.some.inj hres
    exact W.iret (v := (-1)) hx hb hr (fun t ht hW => ⟨⟨_, (), rfl, rfl, by rw [ht]; exact hP, va_K.moved hW.alike hK, hD⟩, hS.F ht⟩) hS.2.2 d_R_merge_24
  · have hres := zi_n c_4 hres
    refine lv_iload_n hx hb d_R_merge_7 rfl (lv_at hl 2 rfl) ?_
    obtain ⟨v8, hc8, hres⟩ := zo_b hres
    refine vp_callSi (va_Run.run (va_runS (As := [.int a1]) (rest := []) ⟨hx, hb, hml, hown, hts⟩ (c_R_isBranch l D (zRt cR) a1 v8 hc8) (va_cwS 1 hts (zg_S k_505 k_506 k_32 g_R_isBranch) rfl rfl rfl hd_R_isBranch ⟨Nat.le_of_ble_eq_true rfl, Nat.le_of_ble_eq_true rfl⟩) ⟨zro_b _, zro_p va_Pnil hK hN _⟩ rfl rfl hl.1 rfl (lv_room (Nat.le_of_ble_eq_true rfl)) d_R_merge_8 ⟨Nat.zero_le _, Nat.zero_le _⟩)) (fun r_8 er_8 => ?_)
    have er_8 := er_8.symm
    subst er_8
    refine lv_if_eq (tgt := 23) hx hb d_R_merge_11 (by decide) (fun c_11 => ?_) (fun c_11 => ?_)
    · have hres := zi_p c_11 hres
      refine lv_iconst (v := (-1)) hx hb d_R_merge_23 (by decide) ?_
      obtain rfl := Option.some.inj hres
      exact W.iret (v := (-1)) hx hb hr (fun t ht hW => ⟨⟨_, (), rfl, rfl, by rw [ht]; exact hP, va_K.moved hW.alike hK, hD⟩, hS.F ht⟩) hS.2.2 d_R_merge_24
    · have hres := zi_n c_11 hres
      refine lv_aload_n hx hb d_R_merge_14 rfl (lv_at hl 0 rfl) ?_
      refine va_get (D := D) (ci := 4) (v := .ref (q 16)) (C := R_R) (T := T_R) (N := 23) hx hb hts in_R hown hK hP (0) rfl rfl 16 (by decide) (hts _ k_444) (fun _ h9 => h9) rfl d_R_merge_15 ?_
      refine lv_iload_n hx hb d_R_merge_18 rfl (lv_at hl 1 rfl) ?_
      by_cases ck_19 : zin a0 4
      · have hres := zi_p ck_19 hres
        refine va_iald hx hb hK hP 16 15 rfl rfl ck_19 d_R_merge_19 ?_
        refine lv_if_ge (tgt := 25) hx hb d_R_merge_20 (by decide) (fun c_20 => ?_) (fun c_20 => ?_)
        · have hres := zi_p c_20 hres
          refine lv_aload_n hx hb d_R_merge_25 rfl (lv_at hl 0 rfl) ?_
          refine va_get (D := D) (ci := 4) (v := .ref (q 16)) (C := R_R) (T := T_R) (N := 23) hx hb hts in_R hown hK hP (0) rfl rfl 16 (by decide) (hts _ k_444) (fun _ h9 => h9) rfl d_R_merge_26 ?_
          refine lv_iload_n hx hb d_R_merge_29 rfl (lv_at hl 2 rfl) ?_
          by_cases ck_30 : zin a1 4
          · have hres := zi_p ck_30 hres
            refine va_iald hx hb hK hP 16 15 rfl rfl ck_30 d_R_merge_30 ?_
            refine lv_istore_n (lv' := [(3, .int (ρ.2.1.2.1.2 a1.toNatClampNeg)), (0, .ref (q 0)), (1, .int a0), (2, .int a1)]) hx hb d_R_merge_31 rfl hl (by decide) rfl (fun ls hl => ?_)
            refine lv_aload_n hx hb d_R_merge_32 rfl (lv_at hl 1 rfl) ?_
            refine va_get (D := D) (ci := 4) (v := .ref (q 16)) (C := R_R) (T := T_R) (N := 23) hx hb hts in_R hown hK hP (0) rfl rfl 16 (by decide) (hts _ k_444) (fun _ h9 => h9) rfl d_R_merge_33 ?_
            refine lv_iload_n hx hb d_R_merge_36 rfl (lv_at hl 2 rfl) ?_
            by_cases ck_37 : zin a0 4
            · have hres := zi_p ck_37 hres
              refine va_iald hx hb hK hP 16 15 rfl rfl ck_37 d_R_merge_37 ?_
              refine lv_istore (lv' := [(4, .int (ρ.2.1.2.1.2 a0.toNatClampNeg)), (3, .int (ρ.2.1.2.1.2 a1.toNatClampNeg)), (0, .ref (q 0)), (1, .int a0), (2, .int a1)]) hx hb d_R_merge_38 hl (by decide) rfl (fun ls hl => ?_)
              refine lv_iload_n hx hb d_R_merge_40 rfl (lv_at hl 1 rfl) ?_
              refine lv_if_lt (tgt := 54) hx hb d_R_merge_41 (by decide) (fun c_41 => ?_) (fun c_41 => ?_)
              · have hres := zi_p c_41 hres
                refine lv_aload_n hx hb d_R_merge_54 rfl (lv_at hl 2 rfl) ?_
                refine lv_iload_n hx hb d_R_merge_55 rfl (lv_at hl 4 rfl) ?_
                refine lv_iload hx hb d_R_merge_56 (lv_at hl 0 rfl) ?_
                obtain ⟨v58, hc58, hres⟩ := zo_b hres
                refine zw_v (ws' := zR q cR v58) (va_runV (As := [.int a1, .int (ρ.2.1.2.1.2 a0.toNatClampNeg)]) (rest := []) ⟨hx, hb, hml, hown, hts⟩ (c_R_move l D (zRt cR) _ q cR ρ a1 (ρ.2.1.2.1.2 a0.toNatClampNeg) v58 hc58) (cwV 2 hts (zg_V k_539 k_541 k_15 k_32 g_R_move) rfl rfl rfl ⟨rfl, hd_R_move⟩ ⟨Nat.le_of_ble_eq_true rfl, Nat.le_of_ble_eq_true rfl⟩) ⟨zrw_b _, va_recv hK hP (q0 := 0) rfl rfl, zrw_w hP hD hK hN _⟩ rfl rfl hl.1 rfl (lv_room (Nat.le_of_ble_eq_true rfl)) d_R_merge_58 ⟨Nat.le_of_ble_eq_true rfl, Nat.le_of_ble_eq_true rfl⟩) hD hS hA (fun H locs hP hD hS => ?_)
                have hP : va_P D vwCl (zR q cR v58) H := hP
                have hD : va_D A (zR q cR v58) := hD
                refine lv_iload hx hb d_R_merge_61 (lv_at hl 0 rfl) ?_
                obtain rfl := Option.some.inj hres
                exact W.iret (v := (ρ.2.1.2.1.2 a0.toNatClampNeg)) hx hb hr (fun t ht hW => ⟨⟨_, (), rfl, rfl, by rw [ht]; exact hP, va_K.moved hW.alike hK, hD⟩, hS.F ht⟩) hS.2.2 d_R_merge_63
              · have hres := zi_n c_41 hres
                refine lv_aload_n hx hb d_R_merge_44 rfl (lv_at hl 2 rfl) ?_
                refine lv_iload_n hx hb d_R_merge_45 rfl (lv_at hl 1 rfl) ?_
                refine lv_iload hx hb d_R_merge_46 (lv_at hl 0 rfl) ?_
                obtain ⟨v48, hc48, hres⟩ := zo_b hres
                refine vp_callSi (va_Run.run (va_runV (As := [.int (ρ.2.1.2.1.2 a1.toNatClampNeg), .int (ρ.2.1.2.1.2 a0.toNatClampNeg)]) (rest := []) ⟨hx, hb, hml, hown, hts⟩ (c_R_isAbove l D (zRt cR) q cR ρ (ρ.2.1.2.1.2 a1.toNatClampNeg) (ρ.2.1.2.1.2 a0.toNatClampNeg) v48 hc48) (cwV 2 hts (zg_V k_559 k_561 k_17 k_32 g_R_isAbove) rfl rfl rfl ⟨rfl, hd_R_isAbove⟩ ⟨Nat.le_of_ble_eq_true rfl, Nat.le_of_ble_eq_true rfl⟩) ⟨zro_b _, va_recv hK hP (q0 := 0) rfl rfl, zro_p hP hK hN _⟩ rfl rfl hl.1 rfl (lv_room (Nat.le_of_ble_eq_true rfl)) d_R_merge_48 ⟨Nat.zero_le _, Nat.zero_le _⟩)) (fun r_48 er_48 => ?_)
                have er_48 := er_48.symm
                subst er_48
                refine lv_if_eq (tgt := 64) hx hb d_R_merge_51 (by decide) (fun c_51 => ?_) (fun c_51 => ?_)
                · have hres := zi_p c_51 hres
                  refine lv_aload_n hx hb d_R_merge_64 rfl (lv_at hl 2 rfl) ?_
                  refine lv_iload hx hb d_R_merge_65 (lv_at hl 0 rfl) ?_
                  refine lv_iload_n hx hb d_R_merge_67 rfl (lv_at hl 1 rfl) ?_
                  obtain ⟨v68, hc68, hres⟩ := zo_b hres
                  refine vp_callSi (va_Run.run (va_runV (As := [.int (ρ.2.1.2.1.2 a0.toNatClampNeg), .int (ρ.2.1.2.1.2 a1.toNatClampNeg)]) (rest := []) ⟨hx, hb, hml, hown, hts⟩ (c_R_isAbove l D (zRt cR) q cR ρ (ρ.2.1.2.1.2 a0.toNatClampNeg) (ρ.2.1.2.1.2 a1.toNatClampNeg) v68 hc68) (cwV 2 hts (zg_V k_559 k_561 k_17 k_32 g_R_isAbove) rfl rfl rfl ⟨rfl, hd_R_isAbove⟩ ⟨Nat.le_of_ble_eq_true rfl, Nat.le_of_ble_eq_true rfl⟩) ⟨zro_b _, va_recv hK hP (q0 := 0) rfl rfl, zro_p hP hK hN _⟩ rfl rfl hl.1 rfl (lv_room (Nat.le_of_ble_eq_true rfl)) d_R_merge_68 ⟨Nat.zero_le _, Nat.zero_le _⟩)) (fun r_68 er_68 => ?_)
                  have er_68 := er_68.symm
                  subst er_68
                  refine lv_if_eq (tgt := 76) hx hb d_R_merge_71 (by decide) (fun c_71 => ?_) (fun c_71 => ?_)
                  · have hres := zi_p c_71 hres
                    refine lv_aload_n hx hb d_R_merge_76 rfl (lv_at hl 2 rfl) ?_
                    refine va_get (D := D) (ci := 4) (v := .int ρ.1.2.2.2) (C := R_R) (T := T_R) (N := 23) hx hb hts in_R hown hK hP (0) rfl rfl 11 (by decide) (hts _ k_439) (fun _ h9 => h9) rfl d_R_merge_77 ?_
                    refine lv_bipush (v := 60) hx hb d_R_merge_80 (by decide) ?_
                    refine lv_icmp_ne (tgt := 88) hx hb d_R_merge_82 (by decide) (fun c_82 => ?_) (fun c_82 => ?_)
                    · have hres := zi_n c_82 hres
                      refine lv_aload_n hx hb d_R_merge_88 rfl (lv_at hl 2 rfl) ?_
                      refine lv_iload_n hx hb d_R_merge_89 rfl (lv_at hl 1 rfl) ?_
                      refine lv_iload hx hb d_R_merge_90 (lv_at hl 0 rfl) ?_
                      obtain ⟨v92, hc92, hres⟩ := zo_b hres
                      refine zw_i (ws' := zR q cR v92.2) (v := v92.1) (va_runV (As := [.int (ρ.2.1.2.1.2 a1.toNatClampNeg), .int (ρ.2.1.2.1.2 a0.toNatClampNeg)]) (rest := []) ⟨hx, hb, hml, hown, hts⟩ (c_R_base l D (zRt cR) _ q cR ρ (ρ.2.1.2.1.2 a1.toNatClampNeg) (ρ.2.1.2.1.2 a0.toNatClampNeg) v92 hc92) (cwV 2 hts (zg_V k_563 k_565 k_18 k_32 g_R_base) rfl rfl rfl ⟨rfl, hd_R_base⟩ ⟨Nat.le_of_ble_eq_true rfl, Nat.le_of_ble_eq_true rfl⟩) ⟨zrw_b _, va_recv hK hP (q0 := 0) rfl rfl, zrw_w hP hD hK hN _⟩ rfl rfl hl.1 rfl (lv_room (Nat.le_of_ble_eq_true rfl)) d_R_merge_92 ⟨Nat.le_of_ble_eq_true rfl, Nat.le_of_ble_eq_true rfl⟩) hD hS hA (fun H locs hP hD hS => ?_)
                      have hP : va_P D vwCl (zR q cR v92.2) H := hP
                      have hD : va_D A (zR q cR v92.2) := hD
                      refine lv_istore (lv' := [(5, .int v92.1), (4, .int (ρ.2.1.2.1.2 a0.toNatClampNeg)), (3, .int (ρ.2.1.2.1.2 a1.toNatClampNeg)), (0, .ref (q 0)), (1, .int a0), (2, .int a1)]) hx hb d_R_merge_95 hl (by decide) rfl (fun ls hl => ?_)
                      refine lv_iload hx hb d_R_merge_97 (lv_at hl 0 rfl) ?_
                      have hj113 : ∀ (j113_5 : Int32) (j113_g : RSt) (H : Heap) (locs : List Loc), va_P D vwCl (zR q cR j113_g) H → va_D A (zR q cR j113_g) → va_S A s.heap H locs → ∀ (ls : Array Slot), lv_has ls 7 [(5, .int j113_5), (4, .int (ρ.2.1.2.1.2 a0.toNatClampNeg)), (3, .int (ρ.2.1.2.1.2 a1.toNatClampNeg)), (0, .ref (q 0)), (1, .int a0), (2, .int a1)] → J_R_merge_113 ρ a0 a1 j113_5 j113_g = some v → W p l e (headSpec w_R_merge ({ frames := 6, cells := 0, slots := 0, locals := 156 } : Room)).room s m ([.ref (q 0), .int a0, .int a1].toArray) below meth c H locs 0 0 (MQ below (qd_R_merge D tys q cR ρ a0 a1 v A) ([.ref (q 0), .int a0, .int a1].toArray) s 0 0 A) (F0 m 113 ls []) := by
                        intro j113_5 j113_g H locs hP hD hS ls hl hres
                        unfold J_R_merge_113 at hres
                        refine lv_iload hx hb d_R_merge_113 (lv_at hl 0 rfl) ?_
                        refine lv_if_eq (tgt := 121) hx hb d_R_merge_115 (by decide) (fun c_115 => ?_) (fun c_115 => ?_)
                        · have hres := zi_p c_115 hres
                          refine lv_aload_n hx hb d_R_merge_121 rfl (lv_at hl 3 rfl) ?_
                          refine lv_iload_n hx hb d_R_merge_122 rfl (lv_at hl 2 rfl) ?_
                          refine lv_iload hx hb d_R_merge_123 (lv_at hl 1 rfl) ?_
                          obtain ⟨v125, hc125, hres⟩ := zo_b hres
                          refine zw_i (ws' := zR q cR v125.2) (v := v125.1) (va_runV (As := [.int (ρ.2.1.2.1.2 a1.toNatClampNeg), .int (ρ.2.1.2.1.2 a0.toNatClampNeg)]) (rest := []) ⟨hx, hb, hml, hown, hts⟩ (c_R_commit l D (zRt cR) _ q cR j113_g (ρ.2.1.2.1.2 a1.toNatClampNeg) (ρ.2.1.2.1.2 a0.toNatClampNeg) v125 hc125) (cwV 2 hts (zg_V k_524 k_526 k_13 k_32 g_R_commit) rfl rfl rfl ⟨rfl, hd_R_commit⟩ ⟨Nat.le_of_ble_eq_true rfl, Nat.le_of_ble_eq_true rfl⟩) ⟨zrw_b _, va_recv hK hP (q0 := 0) rfl rfl, zrw_w hP hD hK hN _⟩ rfl rfl hl.1 rfl (lv_room (Nat.le_of_ble_eq_true rfl)) d_R_merge_125 ⟨Nat.le_of_ble_eq_true rfl, Nat.le_of_ble_eq_true rfl⟩) hD hS hA (fun H locs hP hD hS => ?_)
                          have hP : va_P D vwCl (zR q cR v125.2) H := hP
                          have hD : va_D A (zR q cR v125.2) := hD
                          refine lv_istore (lv' := [(6, .int v125.1), (5, .int j113_5), (4, .int (ρ.2.1.2.1.2 a0.toNatClampNeg)), (3, .int (ρ.2.1.2.1.2 a1.toNatClampNeg)), (0, .ref (q 0)), (1, .int a0), (2, .int a1)]) hx hb d_R_merge_128 hl (by decide) rfl (fun ls hl => ?_)
                          refine lv_aload_n hx hb d_R_merge_130 rfl (lv_at hl 4 rfl) ?_
                          refine lv_iload_n hx hb d_R_merge_131 rfl (lv_at hl 6 rfl) ?_
                          refine lv_iload hx hb d_R_merge_132 (lv_at hl 0 rfl) ?_
                          obtain ⟨v134, hc134, hres⟩ := zo_b hres
                          refine zw_v (ws' := zR q cR v134) (va_runV (As := [.int a1, .int v125.1]) (rest := []) ⟨hx, hb, hml, hown, hts⟩ (c_R_move l D (zRt cR) _ q cR v125.2 a1 v125.1 v134 hc134) (cwV 2 hts (zg_V k_539 k_541 k_15 k_32 g_R_move) rfl rfl rfl ⟨rfl, hd_R_move⟩ ⟨Nat.le_of_ble_eq_true rfl, Nat.le_of_ble_eq_true rfl⟩) ⟨zrw_b _, va_recv hK hP (q0 := 0) rfl rfl, zrw_w hP hD hK hN _⟩ rfl rfl hl.1 rfl (lv_room (Nat.le_of_ble_eq_true rfl)) d_R_merge_134 ⟨Nat.le_of_ble_eq_true rfl, Nat.le_of_ble_eq_true rfl⟩) hD hS hA (fun H locs hP hD hS => ?_)
                          have hP : va_P D vwCl (zR q cR v134) H := hP
                          have hD : va_D A (zR q cR v134) := hD
                          refine lv_iload hx hb d_R_merge_137 (lv_at hl 0 rfl) ?_
                          obtain rfl := Option.some.inj hres
                          exact W.iret (v := v125.1) hx hb hr (fun t ht hW => ⟨⟨_, (), rfl, rfl, by rw [ht]; exact hP, va_K.moved hW.alike hK, hD⟩, hS.F ht⟩) hS.2.2 d_R_merge_139
                        · have hres := zi_n c_115 hres
                          refine lv_iload hx hb d_R_merge_118 (lv_at hl 0 rfl) ?_
                          obtain rfl := Option.some.inj hres
                          exact W.iret (v := j113_5) hx hb hr (fun t ht hW => ⟨⟨_, (), rfl, rfl, by rw [ht]; exact hP, va_K.moved hW.alike hK, hD⟩, hS.F ht⟩) hS.2.2 d_R_merge_120
                      refine lv_if_ne (tgt := 113) hx hb d_R_merge_99 (by decide) (fun c_99 => ?_) (fun c_99 => ?_)
                      · have hres := zi_n c_99 hres
                        exact hj113 v92.1 v92.2 _ _ hP hD hS ls (lv_sub hl [0, 1, 2, 3, 4, 5] rfl) hres
                      · have hres := zi_p c_99 hres
                        refine lv_aload_n hx hb d_R_merge_102 rfl (lv_at hl 3 rfl) ?_
                        refine lv_bipush (v := 60) hx hb d_R_merge_103 (by decide) ?_
                        refine lv_iload_n hx hb d_R_merge_105 rfl (lv_at hl 2 rfl) ?_
                        refine lv_iload hx hb d_R_merge_106 (lv_at hl 1 rfl) ?_
                        obtain ⟨v108, hc108, hres⟩ := zo_b hres
                        refine zw_i (ws' := zR q cR v108.2) (v := v108.1) (va_runV (As := [.int 60, .int (ρ.2.1.2.1.2 a1.toNatClampNeg), .int (ρ.2.1.2.1.2 a0.toNatClampNeg)]) (rest := []) ⟨hx, hb, hml, hown, hts⟩ (c_R_mergeTrees l D (zRt cR) _ q cR v92.2 60 (ρ.2.1.2.1.2 a1.toNatClampNeg) (ρ.2.1.2.1.2 a0.toNatClampNeg) v108 hc108) (cwV 3 hts (zg_V k_575 k_577 k_21 k_32 g_R_mergeTrees) rfl rfl rfl ⟨rfl, hd_R_mergeTrees⟩ ⟨Nat.le_of_ble_eq_true rfl, Nat.le_of_ble_eq_true rfl⟩) ⟨zrw_b _, va_recv hK hP (q0 := 0) rfl rfl, zrw_w hP hD hK hN _⟩ rfl rfl hl.1 rfl (lv_room (Nat.le_of_ble_eq_true rfl)) d_R_merge_108 ⟨Nat.le_of_ble_eq_true rfl, Nat.le_of_ble_eq_true rfl⟩) hD hS hA (fun H locs hP hD hS => ?_)
                        have hP : va_P D vwCl (zR q cR v108.2) H := hP
                        have hD : va_D A (zR q cR v108.2) := hD
                        refine lv_istore (lv' := [(5, .int v108.1), (4, .int (ρ.2.1.2.1.2 a0.toNatClampNeg)), (3, .int (ρ.2.1.2.1.2 a1.toNatClampNeg)), (0, .ref (q 0)), (1, .int a0), (2, .int a1)]) hx hb d_R_merge_111 hl (by decide) rfl (fun ls hl => ?_)
                        exact hj113 v108.1 v108.2 _ _ hP hD hS ls (lv_sub hl [0, 1, 2, 3, 4, 5] rfl) hres
                    · have hres := zi_p c_82 hres
                      refine lv_bipush (v := (-2)) hx hb d_R_merge_85 (by decide) ?_
                      obtain rfl := Option.some.inj hres
                      exact W.iret (v := (-2)) hx hb hr (fun t ht hW => ⟨⟨_, (), rfl, rfl, by rw [ht]; exact hP, va_K.moved hW.alike hK, hD⟩, hS.F ht⟩) hS.2.2 d_R_merge_87
                  · have hres := zi_n c_71 hres
                    refine lv_iload_n hx hb d_R_merge_74 rfl (lv_at hl 1 rfl) ?_
                    obtain rfl := Option.some.inj hres
                    exact W.iret (v := (ρ.2.1.2.1.2 a1.toNatClampNeg)) hx hb hr (fun t ht hW => ⟨⟨_, (), rfl, rfl, by rw [ht]; exact hP, va_K.moved hW.alike hK, hD⟩, hS.F ht⟩) hS.2.2 d_R_merge_75
                · have hres := zi_n c_51 hres
                  refine lv_aload_n hx hb d_R_merge_54 rfl (lv_at hl 2 rfl) ?_
                  refine lv_iload_n hx hb d_R_merge_55 rfl (lv_at hl 4 rfl) ?_
                  refine lv_iload hx hb d_R_merge_56 (lv_at hl 0 rfl) ?_
                  obtain ⟨v58, hc58, hres⟩ := zo_b hres
                  refine zw_v (ws' := zR q cR v58) (va_runV (As := [.int a1, .int (ρ.2.1.2.1.2 a0.toNatClampNeg)]) (rest := []) ⟨hx, hb, hml, hown, hts⟩ (c_R_move l D (zRt cR) _ q cR ρ a1 (ρ.2.1.2.1.2 a0.toNatClampNeg) v58 hc58) (cwV 2 hts (zg_V k_539 k_541 k_15 k_32 g_R_move) rfl rfl rfl ⟨rfl, hd_R_move⟩ ⟨Nat.le_of_ble_eq_true rfl, Nat.le_of_ble_eq_true rfl⟩) ⟨zrw_b _, va_recv hK hP (q0 := 0) rfl rfl, zrw_w hP hD hK hN _⟩ rfl rfl hl.1 rfl (lv_room (Nat.le_of_ble_eq_true rfl)) d_R_merge_58 ⟨Nat.le_of_ble_eq_true rfl, Nat.le_of_ble_eq_true rfl⟩) hD hS hA (fun H locs hP hD hS => ?_)
                  have hP : va_P D vwCl (zR q cR v58) H := hP
                  have hD : va_D A (zR q cR v58) := hD
                  refine lv_iload hx hb d_R_merge_61 (lv_at hl 0 rfl) ?_
                  obtain rfl := Option.some.inj hres
                  exact W.iret (v := (ρ.2.1.2.1.2 a0.toNatClampNeg)) hx hb hr (fun t ht hW => ⟨⟨_, (), rfl, rfl, by rw [ht]; exact hP, va_K.moved hW.alike hK, hD⟩, hS.F ht⟩) hS.2.2 d_R_merge_63
            · exact absurd (zi_n ck_37 hres) (by simp)
          · exact absurd (zi_n ck_30 hres) (by simp)
        · have hres := zi_n c_20 hres
          refine lv_iconst (v := (-1)) hx hb d_R_merge_23 (by decide) ?_
          obtain rfl := Option.some.inj hres
          exact W.iret (v := (-1)) hx hb hr (fun t ht hW => ⟨⟨_, (), rfl, rfl, by rw [ht]; exact hP, va_K.moved hW.alike hK, hD⟩, hS.F ht⟩) hS.2.2 d_R_merge_24
      · exact absurd (zi_n ck_19 hres) (by simp)
abbrev qd_R_change (D : va_G) (tys : List (ClassId × FieldType)) (q : Nat → Nat) (cR : Nat → ClassId) (ρ : RSt) (a0 : Int32) (a1 : Int32) (a2 : Int64) (v : Int32 × RSt) (A : Nat → Prop) : Array Value → State → Outcome → State → Prop := va_Qi (fun (r : Int32) (_ : Unit) => r = v.1) (fun _ t => zwd D (zRt cR) (A) (zR q cR v.2) t) (A)

def J_R_change_102 (ρ : RSt) (a0 : Int32) (a1 : Int32) (a2 : Int64) (j102_s0 : Int32) : Option (Int32 × RSt) :=
  Option.bind (f_R_unfit ρ j102_s0 a1 a2) (fun v109 =>
    if v109 = 0 then
      if ρ.1.2.2.2 = 60 then
        some ((-2), ρ)
      else
        Option.bind (f_R_copy ρ j102_s0 65) (fun v135 =>
          Option.bind (f_R_apply v135 a1 a2) (fun v141 =>
            if zin a0 4 then
              Option.bind (f_R_commit v141 (v141.2.1.2.1.2 a0.toNatClampNeg) (-1)) (fun v152 =>
                Option.bind (f_R_move v152.2 a0 v152.1) (fun v161 =>
                  some (v152.1, v161)))
            else
              none))
    else
      some ((-3), ρ))
def J_R_change_56_9 (ρ : RSt) (a0 : Int32) (a1 : Int32) (a2 : Int64) (j56_s0 : Int32) : Option (Int32 × RSt) :=
  Option.bind (f_R_isBranch a0) (fun v59 =>
    if v59 = 0 then
      some ((-1), ρ)
    else
      if a1 < 0 then
        some ((-1), ρ)
      else
        if 10 < a1 then
          some ((-1), ρ)
        else
          if j56_s0 = 0 then
            if zin a0 4 then
              if 0 ≤ (ρ.2.1.2.1.2 a0.toNatClampNeg) then
                if zin a0 4 then
                  J_R_change_102 ρ a0 a1 a2 (ρ.2.1.2.1.2 a0.toNatClampNeg)
                else
                  none
              else
                J_R_change_102 ρ a0 a1 a2 66
            else
              none
          else
            some ((-1), ρ))
def f_R_change (ρ : RSt) (a0 : Int32) (a1 : Int32) (a2 : Int64) : Option (Int32 × RSt) :=
  if a1 = 3 then
    if (lg_cmp a2 0) < 0 then
      J_R_change_56_9 ρ a0 a1 a2 1
    else
      if (lg_cmp a2 31) ≤ 0 then
        J_R_change_56_9 ρ a0 a1 a2 0
      else
        J_R_change_56_9 ρ a0 a1 a2 1
  else
    if a1 = 4 then
      if (lg_cmp a2 0) < 0 then
        J_R_change_56_9 ρ a0 a1 a2 1
      else
        if (lg_cmp a2 31) ≤ 0 then
          J_R_change_56_9 ρ a0 a1 a2 0
        else
          J_R_change_56_9 ρ a0 a1 a2 1
    else
      if a1 = 5 then
        if (lg_cmp a2 0) < 0 then
          J_R_change_56_9 ρ a0 a1 a2 1
        else
          if (lg_cmp a2 15) ≤ 0 then
            J_R_change_56_9 ρ a0 a1 a2 0
          else
            J_R_change_56_9 ρ a0 a1 a2 1
      else
        J_R_change_56_9 ρ a0 a1 a2 0
set_option maxHeartbeats 4000000 in
set_option maxRecDepth 100000 in
theorem c_R_change (l : Launch) (D : va_G) (tys : List (ClassId × FieldType)) (sz : Nat) (q : Nat → Nat) (cR : Nat → ClassId) (ρ : RSt) (a0 : Int32) (a1 : Int32) (a2 : Int64) (v : Int32 × RSt) (hres : f_R_change ρ a0 a1 a2 = some v) : Met l y_R_change w_R_change ({ frames := 3, cells := 0, slots := 0, locals := 75 } : Room) (va_Pc ([.ref (q 0), .int a0, .int a1, .long a2]) (zrw D (zRt cR) sz (zR q cR ρ))) (qd_R_change D tys q cR ρ a0 a1 a2 v (va_A (zR q cR ρ) sz)) 0 0 (va_A (zR q cR ρ) sz) := by
  refine Met.ofW (cc := b_R_change) (maxL := 8) (ret := (some .int)) (by decide) rfl ?_
  intro p e s m args below meth c s₁ B hml hv
  obtain ⟨rfl, hsz, hP, hK, hD0, hN⟩ := hv
  have hx := B.exec
  have hb := B.bytes
  have hr := B.returns
  have hts : ∀ w ∈ zt, w.before ([.ref (q 0), .int a0, .int a1, .long a2].toArray) s = true := fun w h => atoms_spec (ws := w_R_change) B.pre w (List.mem_cons_of_mem _ h)
  have hown : s.vm.findClass R_R = some m.cls := findClass_of_methodNamed B.named
  have hlocks := B.notSynchronized
  subst hsz
  have hD := hD0.self (sz := s.heap.size)
  generalize hAe : va_A (zR q cR ρ) s.heap.size = A at hD ⊢
  have hA : ∀ q : Nat, s.heap.size ≤ q → A q := fun q h => by rw [← hAe]; exact Or.inr h
  have hS : va_S A s.heap s.heap [] := va_S.rf
  have hP : va_P D vwCl (zR q cR ρ) s.heap := hP
  have hD : va_D A (zR q cR ρ) := hD
  have hl := lv_entry ([.ref (q 0), .int a0, .int a1, .long a2]) (n := 8) (Nat.le_of_ble_eq_true rfl)
  rw [lg_entry_eq]
  generalize (lg_sl ([.ref (q 0), .int a0, .int a1, .long a2]) ++ List.replicate (8 - (lg_sl ([.ref (q 0), .int a0, .int a1, .long a2])).length) Slot.unset).toArray = ls at hl ⊢
  have hl : lv_has ls 8 [(0, .ref (q 0)), (1, .int a0), (2, .int a1), (3, .long a2)] := hl
  unfold f_R_change at hres
  refine lv_iload_n hx hb d_R_change_0 rfl (lv_at hl 2 rfl) ?_
  refine lv_iconst (v := 3) hx hb d_R_change_1 (by decide) ?_
  have hj56 : ∀ (j56_s0 : Int32) (H : Heap) (locs : List Loc), va_P D vwCl (zR q cR ρ) H → va_D A (zR q cR ρ) → va_S A s.heap H locs → ∀ (ls : Array Slot), lv_has ls 8 [(0, .ref (q 0)), (1, .int a0), (2, .int a1), (3, .long a2)] → J_R_change_56_9 ρ a0 a1 a2 j56_s0 = some v → W p l e (headSpec w_R_change ({ frames := 3, cells := 0, slots := 0, locals := 75 } : Room)).room s m ([.ref (q 0), .int a0, .int a1, .long a2].toArray) below meth c H locs 0 0 (MQ below (qd_R_change D tys q cR ρ a0 a1 a2 v A) ([.ref (q 0), .int a0, .int a1, .long a2].toArray) s 0 0 A) (F0 m 56 ls [.int j56_s0]) := by
    intro j56_s0 H locs hP hD hS ls hl hres
    unfold J_R_change_56_9 at hres
    refine lv_istore (lv' := [(5, .int j56_s0), (0, .ref (q 0)), (1, .int a0), (2, .int a1), (3, .long a2)]) hx hb d_R_change_56 hl (by decide) rfl (fun ls hl => ?_)
    refine lv_iload_n hx hb d_R_change_58 rfl (lv_at hl 2 rfl) ?_
    obtain ⟨v59, hc59, hres⟩ := zo_b hres
    refine vp_callSi (va_Run.run (va_runS (As := [.int a0]) (rest := []) ⟨hx, hb, hml, hown, hts⟩ (c_R_isBranch l D (zRt cR) a0 v59 hc59) (va_cwS 1 hts (zg_S k_505 k_506 k_32 g_R_isBranch) rfl rfl rfl hd_R_isBranch ⟨Nat.le_of_ble_eq_true rfl, Nat.le_of_ble_eq_true rfl⟩) ⟨zro_b _, zro_p va_Pnil hK hN _⟩ rfl rfl hl.1 rfl (lv_room (Nat.le_of_ble_eq_true rfl)) d_R_change_59 ⟨Nat.zero_le _, Nat.zero_le _⟩)) (fun r_59 er_59 => ?_)
    have er_59 := er_59.symm
    subst er_59
    refine lv_if_eq (tgt := 80) hx hb d_R_change_62 (by decide) (fun c_62 => ?_) (fun c_62 => ?_)
    · have hres := zi_p c_62 hres
      refine lv_iconst (v := (-1)) hx hb d_R_change_80 (by decide) ?_
      obtain rfl := Option.some.inj hres
      exact W.iret (v := (-1)) hx hb hr (fun t ht hW => ⟨⟨_, (), rfl, rfl, by rw [ht]; exact hP, va_K.moved hW.alike hK, hD⟩, hS.F ht⟩) hS.2.2 d_R_change_81
    · have hres := zi_n c_62 hres
      refine lv_iload_n hx hb d_R_change_65 rfl (lv_at hl 3 rfl) ?_
      refine lv_if_lt (tgt := 80) hx hb d_R_change_66 (by decide) (fun c_66 => ?_) (fun c_66 => ?_)
      · have hres := zi_p c_66 hres
        refine lv_iconst (v := (-1)) hx hb d_R_change_80 (by decide) ?_
        obtain rfl := Option.some.inj hres
        exact W.iret (v := (-1)) hx hb hr (fun t ht hW => ⟨⟨_, (), rfl, rfl, by rw [ht]; exact hP, va_K.moved hW.alike hK, hD⟩, hS.F ht⟩) hS.2.2 d_R_change_81
      · have hres := zi_n c_66 hres
        refine lv_iload_n hx hb d_R_change_69 rfl (lv_at hl 3 rfl) ?_
        refine lv_bipush (v := 10) hx hb d_R_change_70 (by decide) ?_
        refine lv_icmp_gt (tgt := 80) hx hb d_R_change_72 (by decide) (fun c_72 => ?_) (fun c_72 => ?_)
        · have hres := zi_p c_72 hres
          refine lv_iconst (v := (-1)) hx hb d_R_change_80 (by decide) ?_
          obtain rfl := Option.some.inj hres
          exact W.iret (v := (-1)) hx hb hr (fun t ht hW => ⟨⟨_, (), rfl, rfl, by rw [ht]; exact hP, va_K.moved hW.alike hK, hD⟩, hS.F ht⟩) hS.2.2 d_R_change_81
        · have hres := zi_n c_72 hres
          refine lv_iload hx hb d_R_change_75 (lv_at hl 0 rfl) ?_
          refine lv_if_eq (tgt := 82) hx hb d_R_change_77 (by decide) (fun c_77 => ?_) (fun c_77 => ?_)
          · have hres := zi_p c_77 hres
            refine lv_aload_n hx hb d_R_change_82 rfl (lv_at hl 1 rfl) ?_
            refine va_get (D := D) (ci := 4) (v := .ref (q 16)) (C := R_R) (T := T_R) (N := 23) hx hb hts in_R hown hK hP (0) rfl rfl 16 (by decide) (hts _ k_444) (fun _ h9 => h9) rfl d_R_change_83 ?_
            refine lv_iload_n hx hb d_R_change_86 rfl (lv_at hl 2 rfl) ?_
            by_cases ck_87 : zin a0 4
            · have hres := zi_p ck_87 hres
              refine va_iald hx hb hK hP 16 15 rfl rfl ck_87 d_R_change_87 ?_
              have hj102 : ∀ (j102_s0 : Int32) (H : Heap) (locs : List Loc), va_P D vwCl (zR q cR ρ) H → va_D A (zR q cR ρ) → va_S A s.heap H locs → ∀ (ls : Array Slot), lv_has ls 8 [(5, .int j56_s0), (0, .ref (q 0)), (1, .int a0), (2, .int a1), (3, .long a2)] → J_R_change_102 ρ a0 a1 a2 j102_s0 = some v → W p l e (headSpec w_R_change ({ frames := 3, cells := 0, slots := 0, locals := 75 } : Room)).room s m ([.ref (q 0), .int a0, .int a1, .long a2].toArray) below meth c H locs 0 0 (MQ below (qd_R_change D tys q cR ρ a0 a1 a2 v A) ([.ref (q 0), .int a0, .int a1, .long a2].toArray) s 0 0 A) (F0 m 102 ls [.int j102_s0]) := by
                intro j102_s0 H locs hP hD hS ls hl hres
                unfold J_R_change_102 at hres
                refine lv_istore (lv' := [(6, .int j102_s0), (5, .int j56_s0), (0, .ref (q 0)), (1, .int a0), (2, .int a1), (3, .long a2)]) hx hb d_R_change_102 hl (by decide) rfl (fun ls hl => ?_)
                refine lv_aload_n hx hb d_R_change_104 rfl (lv_at hl 2 rfl) ?_
                refine lv_iload hx hb d_R_change_105 (lv_at hl 0 rfl) ?_
                refine lv_iload_n hx hb d_R_change_107 rfl (lv_at hl 4 rfl) ?_
                refine lv_lload_n hx hb d_R_change_108 rfl (lv_at hl 5 rfl) ?_
                obtain ⟨v109, hc109, hres⟩ := zo_b hres
                refine vp_callSi (va_Run.run (va_runV (As := [.int j102_s0, .int a1, .long a2]) (rest := []) ⟨hx, hb, hml, hown, hts⟩ (c_R_unfit l D (zRt cR) q cR ρ j102_s0 a1 a2 v109 hc109) (cwV 3 hts (zg_V k_508 k_510 k_9 k_32 g_R_unfit) rfl rfl rfl ⟨rfl, hd_R_unfit⟩ ⟨Nat.le_of_ble_eq_true rfl, Nat.le_of_ble_eq_true rfl⟩) ⟨zro_b _, va_recv hK hP (q0 := 0) rfl rfl, zro_p hP hK hN _⟩ rfl rfl hl.1 rfl (lv_room (Nat.le_of_ble_eq_true rfl)) d_R_change_109 ⟨Nat.zero_le _, Nat.zero_le _⟩)) (fun r_109 er_109 => ?_)
                have er_109 := er_109.symm
                subst er_109
                refine lv_if_eq (tgt := 118) hx hb d_R_change_112 (by decide) (fun c_112 => ?_) (fun c_112 => ?_)
                · have hres := zi_p c_112 hres
                  refine lv_aload_n hx hb d_R_change_118 rfl (lv_at hl 2 rfl) ?_
                  refine va_get (D := D) (ci := 4) (v := .int ρ.1.2.2.2) (C := R_R) (T := T_R) (N := 23) hx hb hts in_R hown hK hP (0) rfl rfl 11 (by decide) (hts _ k_439) (fun _ h9 => h9) rfl d_R_change_119 ?_
                  refine lv_bipush (v := 60) hx hb d_R_change_122 (by decide) ?_
                  refine lv_icmp_ne (tgt := 130) hx hb d_R_change_124 (by decide) (fun c_124 => ?_) (fun c_124 => ?_)
                  · have hres := zi_n c_124 hres
                    refine lv_aload_n hx hb d_R_change_130 rfl (lv_at hl 2 rfl) ?_
                    refine lv_iload hx hb d_R_change_131 (lv_at hl 0 rfl) ?_
                    refine lv_bipush (v := 65) hx hb d_R_change_133 (by decide) ?_
                    obtain ⟨v135, hc135, hres⟩ := zo_b hres
                    refine zw_v (ws' := zR q cR v135) (va_runV (As := [.int j102_s0, .int 65]) (rest := []) ⟨hx, hb, hml, hown, hts⟩ (c_R_copy l D (zRt cR) _ q cR ρ j102_s0 65 v135 hc135) (cwV 2 hts (zg_V k_516 k_518 k_11 k_32 g_R_copy) rfl rfl rfl ⟨rfl, hd_R_copy⟩ ⟨Nat.le_of_ble_eq_true rfl, Nat.le_of_ble_eq_true rfl⟩) ⟨zrw_b _, va_recv hK hP (q0 := 0) rfl rfl, zrw_w hP hD hK hN _⟩ rfl rfl hl.1 rfl (lv_room (Nat.le_of_ble_eq_true rfl)) d_R_change_135 ⟨Nat.le_of_ble_eq_true rfl, Nat.le_of_ble_eq_true rfl⟩) hD hS hA (fun H locs hP hD hS => ?_)
                    have hP : va_P D vwCl (zR q cR v135) H := hP
                    have hD : va_D A (zR q cR v135) := hD
                    refine lv_aload_n hx hb d_R_change_138 rfl (lv_at hl 2 rfl) ?_
                    refine lv_iload_n hx hb d_R_change_139 rfl (lv_at hl 4 rfl) ?_
                    refine lv_lload_n hx hb d_R_change_140 rfl (lv_at hl 5 rfl) ?_
                    obtain ⟨v141, hc141, hres⟩ := zo_b hres
                    refine zw_v (ws' := zR q cR v141) (va_runV (As := [.int a1, .long a2]) (rest := []) ⟨hx, hb, hml, hown, hts⟩ (c_R_apply l D (zRt cR) _ q cR v135 a1 a2 v141 hc141) (cwV 2 hts (zg_V k_520 k_522 k_12 k_32 g_R_apply) rfl rfl rfl ⟨rfl, hd_R_apply⟩ ⟨Nat.le_of_ble_eq_true rfl, Nat.le_of_ble_eq_true rfl⟩) ⟨zrw_b _, va_recv hK hP (q0 := 0) rfl rfl, zrw_w hP hD hK hN _⟩ rfl rfl hl.1 rfl (lv_room (Nat.le_of_ble_eq_true rfl)) d_R_change_141 ⟨Nat.le_of_ble_eq_true rfl, Nat.le_of_ble_eq_true rfl⟩) hD hS hA (fun H locs hP hD hS => ?_)
                    have hP : va_P D vwCl (zR q cR v141) H := hP
                    have hD : va_D A (zR q cR v141) := hD
                    refine lv_aload_n hx hb d_R_change_144 rfl (lv_at hl 2 rfl) ?_
                    refine lv_aload_n hx hb d_R_change_145 rfl (lv_at hl 2 rfl) ?_
                    refine va_get (D := D) (ci := 4) (v := .ref (q 16)) (C := R_R) (T := T_R) (N := 23) hx hb hts in_R hown hK hP (0) rfl rfl 16 (by decide) (hts _ k_444) (fun _ h9 => h9) rfl d_R_change_146 ?_
                    refine lv_iload_n hx hb d_R_change_149 rfl (lv_at hl 3 rfl) ?_
                    by_cases ck_150 : zin a0 4
                    · have hres := zi_p ck_150 hres
                      refine va_iald hx hb hK hP 16 15 rfl rfl ck_150 d_R_change_150 ?_
                      refine lv_iconst (v := (-1)) hx hb d_R_change_151 (by decide) ?_
                      obtain ⟨v152, hc152, hres⟩ := zo_b hres
                      refine zw_i (ws' := zR q cR v152.2) (v := v152.1) (va_runV (As := [.int (v141.2.1.2.1.2 a0.toNatClampNeg), .int (-1)]) (rest := []) ⟨hx, hb, hml, hown, hts⟩ (c_R_commit l D (zRt cR) _ q cR v141 (v141.2.1.2.1.2 a0.toNatClampNeg) (-1) v152 hc152) (cwV 2 hts (zg_V k_524 k_526 k_13 k_32 g_R_commit) rfl rfl rfl ⟨rfl, hd_R_commit⟩ ⟨Nat.le_of_ble_eq_true rfl, Nat.le_of_ble_eq_true rfl⟩) ⟨zrw_b _, va_recv hK hP (q0 := 0) rfl rfl, zrw_w hP hD hK hN _⟩ rfl rfl hl.1 rfl (lv_room (Nat.le_of_ble_eq_true rfl)) d_R_change_152 ⟨Nat.le_of_ble_eq_true rfl, Nat.le_of_ble_eq_true rfl⟩) hD hS hA (fun H locs hP hD hS => ?_)
                      have hP : va_P D vwCl (zR q cR v152.2) H := hP
                      have hD : va_D A (zR q cR v152.2) := hD
                      refine lv_istore (lv' := [(7, .int v152.1), (6, .int j102_s0), (5, .int j56_s0), (0, .ref (q 0)), (1, .int a0), (2, .int a1), (3, .long a2)]) hx hb d_R_change_155 hl (by decide) rfl (fun ls hl => ?_)
                      refine lv_aload_n hx hb d_R_change_157 rfl (lv_at hl 3 rfl) ?_
                      refine lv_iload_n hx hb d_R_change_158 rfl (lv_at hl 4 rfl) ?_
                      refine lv_iload hx hb d_R_change_159 (lv_at hl 0 rfl) ?_
                      obtain ⟨v161, hc161, hres⟩ := zo_b hres
                      refine zw_v (ws' := zR q cR v161) (va_runV (As := [.int a0, .int v152.1]) (rest := []) ⟨hx, hb, hml, hown, hts⟩ (c_R_move l D (zRt cR) _ q cR v152.2 a0 v152.1 v161 hc161) (cwV 2 hts (zg_V k_539 k_541 k_15 k_32 g_R_move) rfl rfl rfl ⟨rfl, hd_R_move⟩ ⟨Nat.le_of_ble_eq_true rfl, Nat.le_of_ble_eq_true rfl⟩) ⟨zrw_b _, va_recv hK hP (q0 := 0) rfl rfl, zrw_w hP hD hK hN _⟩ rfl rfl hl.1 rfl (lv_room (Nat.le_of_ble_eq_true rfl)) d_R_change_161 ⟨Nat.le_of_ble_eq_true rfl, Nat.le_of_ble_eq_true rfl⟩) hD hS hA (fun H locs hP hD hS => ?_)
                      have hP : va_P D vwCl (zR q cR v161) H := hP
                      have hD : va_D A (zR q cR v161) := hD
                      refine lv_iload hx hb d_R_change_164 (lv_at hl 0 rfl) ?_
                      obtain rfl := Option.some.inj hres
                      exact W.iret (v := v152.1) hx hb hr (fun t ht hW => ⟨⟨_, (), rfl, rfl, by rw [ht]; exact hP, va_K.moved hW.alike hK, hD⟩, hS.F ht⟩) hS.2.2 d_R_change_166
                    · exact absurd (zi_n ck_150 hres) (by simp)
                  · have hres := zi_p c_124 hres
                    refine lv_bipush (v := (-2)) hx hb d_R_change_127 (by decide) ?_
                    obtain rfl := Option.some.inj hres
                    exact W.iret (v := (-2)) hx hb hr (fun t ht hW => ⟨⟨_, (), rfl, rfl, by rw [ht]; exact hP, va_K.moved hW.alike hK, hD⟩, hS.F ht⟩) hS.2.2 d_R_change_129
                · have hres := zi_n c_112 hres
                  refine lv_bipush (v := (-3)) hx hb d_R_change_115 (by decide) ?_
                  obtain rfl := Option.some.inj hres
                  exact W.iret (v := (-3)) hx hb hr (fun t ht hW => ⟨⟨_, (), rfl, rfl, by rw [ht]; exact hP, va_K.moved hW.alike hK, hD⟩, hS.F ht⟩) hS.2.2 d_R_change_117
              refine lv_if_ge (tgt := 96) hx hb d_R_change_88 (by decide) (fun c_88 => ?_) (fun c_88 => ?_)
              · have hres := zi_p c_88 hres
                refine lv_aload_n hx hb d_R_change_96 rfl (lv_at hl 1 rfl) ?_
                refine va_get (D := D) (ci := 4) (v := .ref (q 16)) (C := R_R) (T := T_R) (N := 23) hx hb hts in_R hown hK hP (0) rfl rfl 16 (by decide) (hts _ k_444) (fun _ h9 => h9) rfl d_R_change_97 ?_
                refine lv_iload_n hx hb d_R_change_100 rfl (lv_at hl 2 rfl) ?_
                by_cases ck_101 : zin a0 4
                · have hres := zi_p ck_101 hres
                  refine va_iald hx hb hK hP 16 15 rfl rfl ck_101 d_R_change_101 ?_
                  exact hj102 (ρ.2.1.2.1.2 a0.toNatClampNeg) _ _ hP hD hS ls (lv_sub hl [0, 1, 2, 3, 4] rfl) hres
                · exact absurd (zi_n ck_101 hres) (by simp)
              · have hres := zi_n c_88 hres
                refine lv_bipush (v := 66) hx hb d_R_change_91 (by decide) ?_
                refine lv_goto (tgt := 102) hx hb d_R_change_93 (by decide) ?_
                exact hj102 66 _ _ hP hD hS ls (lv_sub hl [0, 1, 2, 3, 4] rfl) hres
            · exact absurd (zi_n ck_87 hres) (by simp)
          · have hres := zi_n c_77 hres
            refine lv_iconst (v := (-1)) hx hb d_R_change_80 (by decide) ?_
            obtain rfl := Option.some.inj hres
            exact W.iret (v := (-1)) hx hb hr (fun t ht hW => ⟨⟨_, (), rfl, rfl, by rw [ht]; exact hP, va_K.moved hW.alike hK, hD⟩, hS.F ht⟩) hS.2.2 d_R_change_81
  refine lv_icmp_eq (tgt := 10) hx hb d_R_change_2 (by decide) (fun c_2 => ?_) (fun c_2 => ?_)
  · have hres := zi_p c_2 hres
    refine lv_lload_n hx hb d_R_change_10 rfl (lv_at hl 3 rfl) ?_
    refine lv_lconst (v := 0) hx hb d_R_change_11 (by decide) ?_
    refine W.lcmp hx hb d_R_change_12 ?_
    refine lv_if_lt (tgt := 24) hx hb d_R_change_13 (by decide) (fun c_13 => ?_) (fun c_13 => ?_)
    · have hres := zi_p c_13 hres
      refine lv_iconst (v := 1) hx hb d_R_change_24 (by decide) ?_
      refine lv_goto (tgt := 56) hx hb d_R_change_25 (by decide) ?_
      exact hj56 1 _ _ hP hD hS ls (lv_sub hl [0, 1, 2, 3] rfl) hres
    · have hres := zi_n c_13 hres
      refine lv_lload_n hx hb d_R_change_16 rfl (lv_at hl 3 rfl) ?_
      refine lv_ldc2 (v := 31) hx hb hown (hts _ k_503) d_R_change_17 ?_
      refine W.lcmp hx hb d_R_change_20 ?_
      refine lv_if_le (tgt := 28) hx hb d_R_change_21 (by decide) (fun c_21 => ?_) (fun c_21 => ?_)
      · have hres := zi_p c_21 hres
        refine lv_iconst (v := 0) hx hb d_R_change_28 (by decide) ?_
        refine lv_goto (tgt := 56) hx hb d_R_change_29 (by decide) ?_
        exact hj56 0 _ _ hP hD hS ls (lv_sub hl [0, 1, 2, 3] rfl) hres
      · have hres := zi_n c_21 hres
        refine lv_iconst (v := 1) hx hb d_R_change_24 (by decide) ?_
        refine lv_goto (tgt := 56) hx hb d_R_change_25 (by decide) ?_
        exact hj56 1 _ _ hP hD hS ls (lv_sub hl [0, 1, 2, 3] rfl) hres
  · have hres := zi_n c_2 hres
    refine lv_iload_n hx hb d_R_change_5 rfl (lv_at hl 2 rfl) ?_
    refine lv_iconst (v := 4) hx hb d_R_change_6 (by decide) ?_
    refine lv_icmp_ne (tgt := 32) hx hb d_R_change_7 (by decide) (fun c_7 => ?_) (fun c_7 => ?_)
    · have hres := zi_n c_7 hres
      refine lv_iload_n hx hb d_R_change_32 rfl (lv_at hl 2 rfl) ?_
      refine lv_iconst (v := 5) hx hb d_R_change_33 (by decide) ?_
      refine lv_icmp_ne (tgt := 55) hx hb d_R_change_34 (by decide) (fun c_34 => ?_) (fun c_34 => ?_)
      · have hres := zi_n c_34 hres
        refine lv_iconst (v := 0) hx hb d_R_change_55 (by decide) ?_
        exact hj56 0 _ _ hP hD hS ls (lv_sub hl [0, 1, 2, 3] rfl) hres
      · have hres := zi_p c_34 hres
        refine lv_lload_n hx hb d_R_change_37 rfl (lv_at hl 3 rfl) ?_
        refine lv_lconst (v := 0) hx hb d_R_change_38 (by decide) ?_
        refine W.lcmp hx hb d_R_change_39 ?_
        refine lv_if_lt (tgt := 51) hx hb d_R_change_40 (by decide) (fun c_40 => ?_) (fun c_40 => ?_)
        · have hres := zi_p c_40 hres
          refine lv_iconst (v := 1) hx hb d_R_change_51 (by decide) ?_
          refine lv_goto (tgt := 56) hx hb d_R_change_52 (by decide) ?_
          exact hj56 1 _ _ hP hD hS ls (lv_sub hl [0, 1, 2, 3] rfl) hres
        · have hres := zi_n c_40 hres
          refine lv_lload_n hx hb d_R_change_43 rfl (lv_at hl 3 rfl) ?_
          refine lv_ldc2 (v := 15) hx hb hown (hts _ k_504) d_R_change_44 ?_
          refine W.lcmp hx hb d_R_change_47 ?_
          refine lv_if_le (tgt := 55) hx hb d_R_change_48 (by decide) (fun c_48 => ?_) (fun c_48 => ?_)
          · have hres := zi_p c_48 hres
            refine lv_iconst (v := 0) hx hb d_R_change_55 (by decide) ?_
            exact hj56 0 _ _ hP hD hS ls (lv_sub hl [0, 1, 2, 3] rfl) hres
          · have hres := zi_n c_48 hres
            refine lv_iconst (v := 1) hx hb d_R_change_51 (by decide) ?_
            refine lv_goto (tgt := 56) hx hb d_R_change_52 (by decide) ?_
            exact hj56 1 _ _ hP hD hS ls (lv_sub hl [0, 1, 2, 3] rfl) hres
    · have hres := zi_p c_7 hres
      refine lv_lload_n hx hb d_R_change_10 rfl (lv_at hl 3 rfl) ?_
      refine lv_lconst (v := 0) hx hb d_R_change_11 (by decide) ?_
      refine W.lcmp hx hb d_R_change_12 ?_
      refine lv_if_lt (tgt := 24) hx hb d_R_change_13 (by decide) (fun c_13 => ?_) (fun c_13 => ?_)
      · have hres := zi_p c_13 hres
        refine lv_iconst (v := 1) hx hb d_R_change_24 (by decide) ?_
        refine lv_goto (tgt := 56) hx hb d_R_change_25 (by decide) ?_
        exact hj56 1 _ _ hP hD hS ls (lv_sub hl [0, 1, 2, 3] rfl) hres
      · have hres := zi_n c_13 hres
        refine lv_lload_n hx hb d_R_change_16 rfl (lv_at hl 3 rfl) ?_
        refine lv_ldc2 (v := 31) hx hb hown (hts _ k_503) d_R_change_17 ?_
        refine W.lcmp hx hb d_R_change_20 ?_
        refine lv_if_le (tgt := 28) hx hb d_R_change_21 (by decide) (fun c_21 => ?_) (fun c_21 => ?_)
        · have hres := zi_p c_21 hres
          refine lv_iconst (v := 0) hx hb d_R_change_28 (by decide) ?_
          refine lv_goto (tgt := 56) hx hb d_R_change_29 (by decide) ?_
          exact hj56 0 _ _ hP hD hS ls (lv_sub hl [0, 1, 2, 3] rfl) hres
        · have hres := zi_n c_21 hres
          refine lv_iconst (v := 1) hx hb d_R_change_24 (by decide) ?_
          refine lv_goto (tgt := 56) hx hb d_R_change_25 (by decide) ?_
          exact hj56 1 _ _ hP hD hS ls (lv_sub hl [0, 1, 2, 3] rfl) hres

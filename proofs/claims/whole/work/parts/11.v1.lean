def L_V_meetsOf_16 (cm : Nat → Option ComV) (σ : VSt) (o_1 : ComV) (o_5 : ComV) : Nat → Int32 → Int64 → Option (Int32 × Int64)
  | 0, _, _ => none
  | n + 1, x16_7, x16_5 =>
    if σ.1 ≤ x16_7 then
      some (x16_7, x16_5)
    else
      Option.bind (f_V_isIn (o_1.2.2.2.2.2.1 &&& o_5.2.2.2.2.2.1) x16_7) (fun v28 =>
        if v28 = 0 then
          L_V_meetsOf_16 cm σ o_1 o_5 n (x16_7 + 1) x16_5
        else
          if zin x16_7 60 then
            zo_m ((σ.2.2.1 x16_7.toNatClampNeg)) (
              none) (fun y_42 =>
              Option.bind (cm y_42) (fun o_43 =>
                Option.bind (f_C_properPast o_43) (fun v43 =>
                  L_V_meetsOf_16 cm σ o_1 o_5 n (x16_7 + 1) (x16_5 &&& (v43 ^^^ (-1))))))
          else
            none)
def f_V_meetsOf (em : TreeV) (cm : Nat → Option ComV) (tm : Nat → Option TreeV) (σ : VSt) (h0 : Nat) (h1 : Nat) : Option (Int64) :=
  Option.bind (cm h0) (fun o_1 =>
    Option.bind (cm h1) (fun o_5 =>
      Option.bind (L_V_meetsOf_16 cm σ o_1 o_5 zfuel 0 (o_1.2.2.2.2.2.1 &&& o_5.2.2.2.2.2.1)) (fun w16 =>
        some w16.2)))
set_option maxHeartbeats 4000000 in
set_option maxRecDepth 100000 in
theorem c_V_meetsOf (l : Launch) (D : va_G) (tys : List (ClassId × FieldType)) (q : Nat → Nat) (cM : ClassId) (cH : ClassId) (cW : ClassId) (cL : ClassId) (cB : ClassId) (cS : ClassId) (em : TreeV) (pl : va_W) (cm : Nat → Option ComV) (tm : Nat → Option TreeV) (hpl : zpool pl cm tm) (σ : VSt) (h0 : Nat) (h1 : Nat) (v : Int64) (hres : f_V_meetsOf em cm tm σ h0 h1 = some v) : Met l y_V_meetsOf w_V_meetsOf ({ frames := 1, cells := 0, slots := 0, locals := 22 } : Room) (va_Pc ([.ref (q 0), .ref h0, .ref h1]) (zro D [(cM, .object R_C), (cH, .int), (cW, .boolean), (cL, .int), (cB, .int), (cS, .object R_T)] (zX q cM cH cW cL cB cS em σ ++ pl))) (vp_Sl (fun r : Int64 => r = v)) 0 0 (fun _ => False) := by
  refine Met.ofW (cc := b_V_meetsOf) (maxL := 8) (ret := (some .long)) (by decide) rfl ?_
  intro p e s m args below meth c s₁ B hml hv
  obtain ⟨rfl, hP, hK, hN⟩ := hv
  have hx := B.exec
  have hb := B.bytes
  have hr := B.returns
  have hts : ∀ w ∈ zt, w.before ([.ref (q 0), .ref h0, .ref h1].toArray) s = true := fun w h => atoms_spec (ws := w_V_meetsOf) B.pre w (List.mem_cons_of_mem _ h)
  have hown : s.vm.findClass R_V = some m.cls := findClass_of_methodNamed B.named
  have hlocks := B.notSynchronized
  have hl := lv_entry ([.ref (q 0), .ref h0, .ref h1]) (n := 8) (Nat.le_of_ble_eq_true rfl)
  rw [lg_entry_eq]
  generalize (lg_sl ([.ref (q 0), .ref h0, .ref h1]) ++ List.replicate (8 - (lg_sl ([.ref (q 0), .ref h0, .ref h1])).length) Slot.unset).toArray = ls at hl ⊢
  have hl : lv_has ls 8 [(0, .ref (q 0)), (1, .ref h0), (2, .ref h1)] := hl
  unfold f_V_meetsOf at hres
  refine lv_aload_n hx hb d_V_meetsOf_0 rfl (lv_at hl 1 rfl) ?_
  obtain ⟨o_1, ho_1, hres⟩ := zo_b hres
  obtain ⟨ko_1, hko_1⟩ := hpl.1 _ _ ho_1
  refine va_get (D := D) (ci := 1) (v := .long o_1.2.2.2.2.2.1) (C := R_C) (T := T_C) (N := 7) hx hb hts in_C hown hK hP (15 + ko_1) (zpl_get hko_1) rfl 5 (by decide) (hts _ k_261) (fun _ h9 => h9) rfl d_V_meetsOf_1 ?_
  refine lv_aload_n hx hb d_V_meetsOf_4 rfl (lv_at hl 2 rfl) ?_
  obtain ⟨o_5, ho_5, hres⟩ := zo_b hres
  obtain ⟨ko_5, hko_5⟩ := hpl.1 _ _ ho_5
  refine va_get (D := D) (ci := 1) (v := .long o_5.2.2.2.2.2.1) (C := R_C) (T := T_C) (N := 7) hx hb hts in_C hown hK hP (15 + ko_5) (zpl_get hko_5) rfl 5 (by decide) (hts _ k_261) (fun _ h9 => h9) rfl d_V_meetsOf_5 ?_
  refine lv_land hx hb d_V_meetsOf_8 ?_
  refine lv_lstore_n (lv' := [(3, .long (o_1.2.2.2.2.2.1 &&& o_5.2.2.2.2.2.1)), (0, .ref (q 0)), (1, .ref h0), (2, .ref h1)]) hx hb d_V_meetsOf_9 rfl hl (by decide) rfl (fun ls hl => ?_)
  refine lv_lload_n hx hb d_V_meetsOf_10 rfl (lv_at hl 0 rfl) ?_
  refine lv_lstore (lv' := [(5, .long (o_1.2.2.2.2.2.1 &&& o_5.2.2.2.2.2.1)), (3, .long (o_1.2.2.2.2.2.1 &&& o_5.2.2.2.2.2.1)), (0, .ref (q 0)), (1, .ref h0), (2, .ref h1)]) hx hb d_V_meetsOf_11 hl (by decide) rfl (fun ls hl => ?_)
  refine lv_iconst (v := 0) hx hb d_V_meetsOf_13 (by decide) ?_
  refine lv_istore (lv' := [(7, .int 0), (5, .long (o_1.2.2.2.2.2.1 &&& o_5.2.2.2.2.2.1)), (3, .long (o_1.2.2.2.2.2.1 &&& o_5.2.2.2.2.2.1)), (0, .ref (q 0)), (1, .ref h0), (2, .ref h1)]) hx hb d_V_meetsOf_14 hl (by decide) rfl (fun ls hl => ?_)
  obtain ⟨w16, hL16, hres⟩ := zo_b hres
  have hk16 : ∀ (ls : Array Slot), lv_has ls 8 [(7, .int w16.1), (5, .long w16.2), (3, .long (o_1.2.2.2.2.2.1 &&& o_5.2.2.2.2.2.1)), (0, .ref (q 0)), (1, .ref h0), (2, .ref h1)] → W p l e (headSpec w_V_meetsOf ({ frames := 1, cells := 0, slots := 0, locals := 22 } : Room)).room s m ([.ref (q 0), .ref h0, .ref h1].toArray) below meth c s.heap [] 0 0 (MQ below (vp_Sl (fun r : Int64 => r = v)) ([.ref (q 0), .ref h0, .ref h1].toArray) s 0 0 (fun _ => False)) (F0 m 59 ls []) := by
    intro ls hl
    refine lv_lload hx hb d_V_meetsOf_59 (lv_at hl 1 rfl) ?_
    obtain rfl := Option.some.inj hres
    exact W.lret (v := w16.2) hx hb hr (fun t ht hW => ⟨_, rfl, rfl, ht⟩) (fun _ hq => by cases hq) d_V_meetsOf_61
  have hloop16 : ∀ (n : Nat) (x16_7 : Int32) (x16_5 : Int64) (ls : Array Slot), lv_has ls 8 [(7, .int x16_7), (5, .long x16_5), (3, .long (o_1.2.2.2.2.2.1 &&& o_5.2.2.2.2.2.1)), (0, .ref (q 0)), (1, .ref h0), (2, .ref h1)] → L_V_meetsOf_16 cm σ o_1 o_5 n x16_7 x16_5 = some w16 → W p l e (headSpec w_V_meetsOf ({ frames := 1, cells := 0, slots := 0, locals := 22 } : Room)).room s m ([.ref (q 0), .ref h0, .ref h1].toArray) below meth c s.heap [] 0 0 (MQ below (vp_Sl (fun r : Int64 => r = v)) ([.ref (q 0), .ref h0, .ref h1].toArray) s 0 0 (fun _ => False)) (F0 m 16 ls []) := by
    intro n
    induction n with
    | zero => intro x16_7 x16_5 ls hl hL16; cases hL16
    | succ n ih =>
      intro x16_7 x16_5 ls hl hL16
      rw [L_V_meetsOf_16] at hL16
      refine lv_iload hx hb d_V_meetsOf_16 (lv_at hl 0 rfl) ?_
      refine lv_aload_n hx hb d_V_meetsOf_18 rfl (lv_at hl 3 rfl) ?_
      refine va_get (D := D) (ci := 3) (v := .int σ.1) (C := R_V) (T := T_V) (N := 10) hx hb hts in_V hown hK hP (0) rfl rfl 1 (by decide) (hts _ k_137) (fun _ h9 => h9) rfl d_V_meetsOf_19 ?_
      refine lv_icmp_ge (tgt := 59) hx hb d_V_meetsOf_22 (by decide) (fun c_22 => ?_) (fun c_22 => ?_)
      · have hL16 := zi_p c_22 hL16
        obtain rfl := Option.some.inj hL16
        exact hk16 ls (lv_sub hl [0, 1, 2, 3, 4, 5] rfl)
      · have hL16 := zi_n c_22 hL16
        refine lv_lload_n hx hb d_V_meetsOf_25 rfl (lv_at hl 2 rfl) ?_
        refine lv_iload hx hb d_V_meetsOf_26 (lv_at hl 0 rfl) ?_
        obtain ⟨v28, hc28, hL16⟩ := zo_b hL16
        refine vp_callSi (va_Run.run (va_runS (As := [.long (o_1.2.2.2.2.2.1 &&& o_5.2.2.2.2.2.1), .int x16_7]) (rest := []) ⟨hx, hb, hml, hown, hts⟩ (c_V_isIn l D [(cM, .object R_C), (cH, .int), (cW, .boolean), (cL, .int), (cB, .int), (cS, .object R_T)] (o_1.2.2.2.2.2.1 &&& o_5.2.2.2.2.2.1) x16_7 v28 hc28) (va_cwS 2 hts (zg_S k_312 k_196 k_29 g_V_isIn) rfl rfl rfl hd_V_isIn ⟨Nat.le_of_ble_eq_true rfl, Nat.le_of_ble_eq_true rfl⟩) ⟨zro_b _, zro_p va_Pnil hK hN _⟩ rfl rfl hl.1 rfl (lv_room (Nat.le_of_ble_eq_true rfl)) d_V_meetsOf_28 ⟨Nat.zero_le _, Nat.zero_le _⟩)) (fun r_28 er_28 => ?_)
        have er_28 := er_28.symm
        subst er_28
        refine lv_if_eq (tgt := 53) hx hb d_V_meetsOf_31 (by decide) (fun c_31 => ?_) (fun c_31 => ?_)
        · have hL16 := zi_p c_31 hL16
          refine lv_iinc (v := (x16_7 + 1)) (lv' := [(7, .int (x16_7 + 1)), (5, .long x16_5), (3, .long (o_1.2.2.2.2.2.1 &&& o_5.2.2.2.2.2.1)), (0, .ref (q 0)), (1, .ref h0), (2, .ref h1)]) hx hb d_V_meetsOf_53 hl (k := 0) rfl rfl (by decide) rfl (fun ls hl => ?_)
          refine lv_goto (tgt := 16) hx hb d_V_meetsOf_56 (by decide) ?_
          exact ih (x16_7 + 1) x16_5 ls (lv_sub hl [0, 1, 2, 3, 4, 5] rfl) hL16
        · have hL16 := zi_n c_31 hL16
          refine lv_lload hx hb d_V_meetsOf_34 (lv_at hl 1 rfl) ?_
          refine lv_aload_n hx hb d_V_meetsOf_36 rfl (lv_at hl 3 rfl) ?_
          refine va_get (D := D) (ci := 3) (v := .ref (q 1)) (C := R_V) (T := T_V) (N := 10) hx hb hts in_V hown hK hP (0) rfl rfl 0 (by decide) (hts _ k_136) (fun _ h9 => h9) rfl d_V_meetsOf_37 ?_
          refine lv_iload hx hb d_V_meetsOf_40 (lv_at hl 0 rfl) ?_
          by_cases ck_42 : zin x16_7 60
          · have hL16 := zi_p ck_42 hL16
            refine va_aldq hx hb hK hP 1 0 rfl rfl ck_42 d_V_meetsOf_42 ?_
            rcases hq_42 : (σ.2.2.1 x16_7.toNatClampNeg) with _ | y_42
            · have hL16 := zo_n hq_42 hL16
              exact absurd hL16 (by simp)
            · have hL16 := zo_s hq_42 hL16
              obtain ⟨o_43, ho_43, hL16⟩ := zo_b hL16
              obtain ⟨ko_43, hko_43⟩ := hpl.1 _ _ ho_43
              obtain ⟨v43, hc43, hL16⟩ := zo_b hL16
              have hPc := zsubP hP (wc := [(y_42, zcC o_43)]) (is := [15 + ko_43]) (zcons (zpl_get hko_43) znil)
              refine vp_callSl (va_Run.run (va_runV (As := []) (rest := [.long x16_5]) ⟨hx, hb, hml, hown, hts⟩ (c_C_properPast l D [(cM, .object R_C), (cH, .int), (cW, .boolean), (cL, .int), (cB, .int), (cS, .object R_T)] y_42 o_43 v43 hc43) (cwV 0 hts (zg_V k_313 k_314 k_315 k_35 g_C_properPast) rfl rfl rfl ⟨rfl, hd_C_properPast⟩ ⟨Nat.le_of_ble_eq_true rfl, Nat.le_of_ble_eq_true rfl⟩) ⟨zro_b _, va_recv hK hPc (q0 := 0) rfl rfl, zro_p hPc hK hN _⟩ rfl rfl hl.1 rfl (lv_room (Nat.le_of_ble_eq_true rfl)) d_V_meetsOf_43 ⟨Nat.zero_le _, Nat.zero_le _⟩)) (fun r_43 er_43 => ?_)
              have er_43 := er_43.symm
              subst er_43
              refine lv_ldc2 (v := (-1)) hx hb hown (hts _ k_318) d_V_meetsOf_46 ?_
              refine lv_lxor hx hb d_V_meetsOf_49 ?_
              refine lv_land hx hb d_V_meetsOf_50 ?_
              refine lv_lstore (lv' := [(5, .long (x16_5 &&& (v43 ^^^ (-1)))), (7, .int x16_7), (3, .long (o_1.2.2.2.2.2.1 &&& o_5.2.2.2.2.2.1)), (0, .ref (q 0)), (1, .ref h0), (2, .ref h1)]) hx hb d_V_meetsOf_51 hl (by decide) rfl (fun ls hl => ?_)
              refine lv_iinc (v := (x16_7 + 1)) (lv' := [(7, .int (x16_7 + 1)), (5, .long (x16_5 &&& (v43 ^^^ (-1)))), (3, .long (o_1.2.2.2.2.2.1 &&& o_5.2.2.2.2.2.1)), (0, .ref (q 0)), (1, .ref h0), (2, .ref h1)]) hx hb d_V_meetsOf_53 hl (k := 1) rfl rfl (by decide) rfl (fun ls hl => ?_)
              refine lv_goto (tgt := 16) hx hb d_V_meetsOf_56 (by decide) ?_
              exact ih (x16_7 + 1) (x16_5 &&& (v43 ^^^ (-1))) ls (lv_sub hl [0, 1, 2, 3, 4, 5] rfl) hL16
          · exact absurd (zi_n ck_42 hL16) (by simp)
  exact hloop16 zfuel 0 (o_1.2.2.2.2.2.1 &&& o_5.2.2.2.2.2.1) ls (lv_sub hl [0, 1, 2, 3, 4, 5] rfl) hL16
def L_V_meet_57 (i : Int32) (v41 : Int64) : Nat → Int32 → Int32 → Option (Int32 × Int32)
  | 0, _, _ => none
  | n + 1, x57_9, x57_8 =>
    if i ≤ x57_9 then
      some (x57_9, x57_8)
    else
      if x57_8 = (-1) then
        some (x57_9, x57_8)
      else
        Option.bind (f_V_nextIn v41 (x57_8 + 1)) (fun v75 =>
          L_V_meet_57 i v41 n (x57_9 + 1) v75)
def f_V_meet (em : TreeV) (cm : Nat → Option ComV) (tm : Nat → Option TreeV) (σ : VSt) (k : Int32) (j : Int32) (i : Int32) : Option (Int32) :=
  Option.bind (f_V_commitAt em cm tm σ k) (fun v2 =>
    zo_m (v2) (
      Option.bind (f_V_commitAt em cm tm σ j) (fun v9 =>
        zo_m (v9) (
          some (-1)) (fun y_9 =>
          some (-1)))) (fun y_2 =>
      Option.bind (f_V_commitAt em cm tm σ j) (fun v9 =>
        zo_m (v9) (
          some (-1)) (fun y_9 =>
          if i < 0 then
            some (-1)
          else
            if i < 60 then
              Option.bind (f_V_meetsOf em cm tm σ y_2 y_9) (fun v41 =>
                Option.bind (f_V_nextIn v41 0) (fun v49 =>
                  Option.bind (L_V_meet_57 i v41 zfuel 0 v49) (fun w57 =>
                    if w57.2 = (-1) then
                      some (-1)
                    else
                      some w57.2)))
            else
              some (-1)))))
set_option maxHeartbeats 4000000 in
set_option maxRecDepth 100000 in
theorem c_V_meet (l : Launch) (D : va_G) (tys : List (ClassId × FieldType)) (q : Nat → Nat) (cM : ClassId) (cH : ClassId) (cW : ClassId) (cL : ClassId) (cB : ClassId) (cS : ClassId) (em : TreeV) (pl : va_W) (cm : Nat → Option ComV) (tm : Nat → Option TreeV) (hpl : zpool pl cm tm) (σ : VSt) (k : Int32) (j : Int32) (i : Int32) (v : Int32) (hres : f_V_meet em cm tm σ k j i = some v) : Met l y_V_meet w_V_meet ({ frames := 2, cells := 0, slots := 0, locals := 49 } : Room) (va_Pc ([.ref (q 0), .int k, .int j, .int i]) (zro D [(cM, .object R_C), (cH, .int), (cW, .boolean), (cL, .int), (cB, .int), (cS, .object R_T)] (zX q cM cH cW cL cB cS em σ ++ pl))) (vp_Si (fun r : Int32 => r = v)) 0 0 (fun _ => False) := by
  refine Met.ofW (cc := b_V_meet) (maxL := 10) (ret := (some .int)) (by decide) rfl ?_
  intro p e s m args below meth c s₁ B hml hv
  obtain ⟨rfl, hP, hK, hN⟩ := hv
  have hx := B.exec
  have hb := B.bytes
  have hr := B.returns
  have hts : ∀ w ∈ zt, w.before ([.ref (q 0), .int k, .int j, .int i].toArray) s = true := fun w h => atoms_spec (ws := w_V_meet) B.pre w (List.mem_cons_of_mem _ h)
  have hown : s.vm.findClass R_V = some m.cls := findClass_of_methodNamed B.named
  have hlocks := B.notSynchronized
  have hl := lv_entry ([.ref (q 0), .int k, .int j, .int i]) (n := 10) (Nat.le_of_ble_eq_true rfl)
  rw [lg_entry_eq]
  generalize (lg_sl ([.ref (q 0), .int k, .int j, .int i]) ++ List.replicate (10 - (lg_sl ([.ref (q 0), .int k, .int j, .int i])).length) Slot.unset).toArray = ls at hl ⊢
  have hl : lv_has ls 10 [(0, .ref (q 0)), (1, .int k), (2, .int j), (3, .int i)] := hl
  unfold f_V_meet at hres
  refine lv_aload_n hx hb d_V_meet_0 rfl (lv_at hl 0 rfl) ?_
  refine lv_iload_n hx hb d_V_meet_1 rfl (lv_at hl 1 rfl) ?_
  obtain ⟨v2, hc2, hres⟩ := zo_b hres
  refine va_csq (va_Run.run (va_runV (As := [.int k]) (rest := []) ⟨hx, hb, hml, hown, hts⟩ (c_V_commitAt l D [(cM, .object R_C), (cH, .int), (cW, .boolean), (cL, .int), (cB, .int), (cS, .object R_T)] q cM cH cW cL cB cS em pl cm tm hpl σ k v2 hc2) (cwV 1 hts (zg_V k_179 k_181 k_0 k_29 g_V_commitAt) rfl rfl rfl ⟨rfl, hd_V_commitAt⟩ ⟨Nat.le_of_ble_eq_true rfl, Nat.le_of_ble_eq_true rfl⟩) ⟨zro_b _, va_recv hK hP (q0 := 0) rfl rfl, zro_p hP hK hN _⟩ rfl rfl hl.1 rfl (lv_room (Nat.le_of_ble_eq_true rfl)) d_V_meet_2 ⟨Nat.zero_le _, Nat.zero_le _⟩)) (fun r_2 er_2 => ?_)
  have er_2 := er_2.symm
  subst er_2
  rcases hq_2 : v2 with _ | y_2
  · have hres := zo_n hq_2 hres
    refine lv_astoreN (lv' := [(4, .null), (0, .ref (q 0)), (1, .int k), (2, .int j), (3, .int i)]) hx hb d_V_meet_5 hl (by decide) rfl (fun ls hl => ?_)
    refine lv_aload_n hx hb d_V_meet_7 rfl (lv_at hl 1 rfl) ?_
    refine lv_iload_n hx hb d_V_meet_8 rfl (lv_at hl 3 rfl) ?_
    obtain ⟨v9, hc9, hres⟩ := zo_b hres
    refine va_csq (va_Run.run (va_runV (As := [.int j]) (rest := []) ⟨hx, hb, hml, hown, hts⟩ (c_V_commitAt l D [(cM, .object R_C), (cH, .int), (cW, .boolean), (cL, .int), (cB, .int), (cS, .object R_T)] q cM cH cW cL cB cS em pl cm tm hpl σ j v9 hc9) (cwV 1 hts (zg_V k_179 k_181 k_0 k_29 g_V_commitAt) rfl rfl rfl ⟨rfl, hd_V_commitAt⟩ ⟨Nat.le_of_ble_eq_true rfl, Nat.le_of_ble_eq_true rfl⟩) ⟨zro_b _, va_recv hK hP (q0 := 0) rfl rfl, zro_p hP hK hN _⟩ rfl rfl hl.1 rfl (lv_room (Nat.le_of_ble_eq_true rfl)) d_V_meet_9 ⟨Nat.zero_le _, Nat.zero_le _⟩)) (fun r_9 er_9 => ?_)
    have er_9 := er_9.symm
    subst er_9
    rcases hq_9 : v9 with _ | y_9
    · have hres := zo_n hq_9 hres
      refine lv_astoreN (lv' := [(5, .null), (4, .null), (0, .ref (q 0)), (1, .int k), (2, .int j), (3, .int i)]) hx hb d_V_meet_12 hl (by decide) rfl (fun ls hl => ?_)
      refine lv_aloadN hx hb d_V_meet_14 (lv_at hl 1 rfl) ?_
      refine lv_ifnullN (tgt := 34) hx hb d_V_meet_16 (by decide) ?_
      refine lv_iconst (v := (-1)) hx hb d_V_meet_34 (by decide) ?_
      obtain rfl := Option.some.inj hres
      exact W.iret (v := (-1)) hx hb hr (fun t ht hW => ⟨_, rfl, rfl, ht⟩) (fun _ hq => by cases hq) d_V_meet_35
    · have hres := zo_s hq_9 hres
      refine lv_astore (lv' := [(5, .ref y_9), (4, .null), (0, .ref (q 0)), (1, .int k), (2, .int j), (3, .int i)]) hx hb d_V_meet_12 hl (by decide) rfl (fun ls hl => ?_)
      refine lv_aloadN hx hb d_V_meet_14 (lv_at hl 1 rfl) ?_
      refine lv_ifnullN (tgt := 34) hx hb d_V_meet_16 (by decide) ?_
      refine lv_iconst (v := (-1)) hx hb d_V_meet_34 (by decide) ?_
      obtain rfl := Option.some.inj hres
      exact W.iret (v := (-1)) hx hb hr (fun t ht hW => ⟨_, rfl, rfl, ht⟩) (fun _ hq => by cases hq) d_V_meet_35
  · have hres := zo_s hq_2 hres
    refine lv_astore (lv' := [(4, .ref y_2), (0, .ref (q 0)), (1, .int k), (2, .int j), (3, .int i)]) hx hb d_V_meet_5 hl (by decide) rfl (fun ls hl => ?_)
    refine lv_aload_n hx hb d_V_meet_7 rfl (lv_at hl 1 rfl) ?_
    refine lv_iload_n hx hb d_V_meet_8 rfl (lv_at hl 3 rfl) ?_
    obtain ⟨v9, hc9, hres⟩ := zo_b hres
    refine va_csq (va_Run.run (va_runV (As := [.int j]) (rest := []) ⟨hx, hb, hml, hown, hts⟩ (c_V_commitAt l D [(cM, .object R_C), (cH, .int), (cW, .boolean), (cL, .int), (cB, .int), (cS, .object R_T)] q cM cH cW cL cB cS em pl cm tm hpl σ j v9 hc9) (cwV 1 hts (zg_V k_179 k_181 k_0 k_29 g_V_commitAt) rfl rfl rfl ⟨rfl, hd_V_commitAt⟩ ⟨Nat.le_of_ble_eq_true rfl, Nat.le_of_ble_eq_true rfl⟩) ⟨zro_b _, va_recv hK hP (q0 := 0) rfl rfl, zro_p hP hK hN _⟩ rfl rfl hl.1 rfl (lv_room (Nat.le_of_ble_eq_true rfl)) d_V_meet_9 ⟨Nat.zero_le _, Nat.zero_le _⟩)) (fun r_9 er_9 => ?_)
    have er_9 := er_9.symm
    subst er_9
    rcases hq_9 : v9 with _ | y_9
    · have hres := zo_n hq_9 hres
      refine lv_astoreN (lv' := [(5, .null), (4, .ref y_2), (0, .ref (q 0)), (1, .int k), (2, .int j), (3, .int i)]) hx hb d_V_meet_12 hl (by decide) rfl (fun ls hl => ?_)
      refine lv_aload hx hb d_V_meet_14 (lv_at hl 1 rfl) ?_
      refine lv_ifnull hx hb d_V_meet_16 ?_
      refine lv_aloadN hx hb d_V_meet_19 (lv_at hl 0 rfl) ?_
      refine lv_ifnullN (tgt := 34) hx hb d_V_meet_21 (by decide) ?_
      refine lv_iconst (v := (-1)) hx hb d_V_meet_34 (by decide) ?_
      obtain rfl := Option.some.inj hres
      exact W.iret (v := (-1)) hx hb hr (fun t ht hW => ⟨_, rfl, rfl, ht⟩) (fun _ hq => by cases hq) d_V_meet_35
    · have hres := zo_s hq_9 hres
      refine lv_astore (lv' := [(5, .ref y_9), (4, .ref y_2), (0, .ref (q 0)), (1, .int k), (2, .int j), (3, .int i)]) hx hb d_V_meet_12 hl (by decide) rfl (fun ls hl => ?_)
      refine lv_aload hx hb d_V_meet_14 (lv_at hl 1 rfl) ?_
      refine lv_ifnull hx hb d_V_meet_16 ?_
      refine lv_aload hx hb d_V_meet_19 (lv_at hl 0 rfl) ?_
      refine lv_ifnull hx hb d_V_meet_21 ?_
      refine lv_iload_n hx hb d_V_meet_24 rfl (lv_at hl 5 rfl) ?_
      refine lv_if_lt (tgt := 34) hx hb d_V_meet_25 (by decide) (fun c_25 => ?_) (fun c_25 => ?_)
      · have hres := zi_p c_25 hres
        refine lv_iconst (v := (-1)) hx hb d_V_meet_34 (by decide) ?_
        obtain rfl := Option.some.inj hres
        exact W.iret (v := (-1)) hx hb hr (fun t ht hW => ⟨_, rfl, rfl, ht⟩) (fun _ hq => by cases hq) d_V_meet_35
      · have hres := zi_n c_25 hres
        refine lv_iload_n hx hb d_V_meet_28 rfl (lv_at hl 5 rfl) ?_
        refine lv_bipush (v := 60) hx hb d_V_meet_29 (by decide) ?_
        refine lv_icmp_lt (tgt := 36) hx hb d_V_meet_31 (by decide) (fun c_31 => ?_) (fun c_31 => ?_)
        · have hres := zi_p c_31 hres
          refine lv_aload_n hx hb d_V_meet_36 rfl (lv_at hl 2 rfl) ?_
          refine lv_aload hx hb d_V_meet_37 (lv_at hl 1 rfl) ?_
          refine lv_aload hx hb d_V_meet_39 (lv_at hl 0 rfl) ?_
          obtain ⟨v41, hc41, hres⟩ := zo_b hres
          refine vp_callSl (va_Run.run (va_runV (As := [.ref y_2, .ref y_9]) (rest := []) ⟨hx, hb, hml, hown, hts⟩ (c_V_meetsOf l D [(cM, .object R_C), (cH, .int), (cW, .boolean), (cL, .int), (cB, .int), (cS, .object R_T)] q cM cH cW cL cB cS em pl cm tm hpl σ y_2 y_9 v41 hc41) (cwV 2 hts (zg_V k_308 k_310 k_6 k_29 g_V_meetsOf) rfl rfl rfl ⟨rfl, hd_V_meetsOf⟩ ⟨Nat.le_of_ble_eq_true rfl, Nat.le_of_ble_eq_true rfl⟩) ⟨zro_b _, va_recv hK hP (q0 := 0) rfl rfl, zro_p hP hK hN _⟩ rfl rfl hl.1 rfl (lv_room (Nat.le_of_ble_eq_true rfl)) d_V_meet_41 ⟨Nat.zero_le _, Nat.zero_le _⟩)) (fun r_41 er_41 => ?_)
          have er_41 := er_41.symm
          subst er_41
          refine lv_lstore (lv' := [(6, .long v41), (5, .ref y_9), (4, .ref y_2), (0, .ref (q 0)), (1, .int k), (2, .int j), (3, .int i)]) hx hb d_V_meet_44 hl (by decide) rfl (fun ls hl => ?_)
          refine lv_lload hx hb d_V_meet_46 (lv_at hl 0 rfl) ?_
          refine lv_iconst (v := 0) hx hb d_V_meet_48 (by decide) ?_
          obtain ⟨v49, hc49, hres⟩ := zo_b hres
          refine vp_callSi (va_Run.run (va_runS (As := [.long v41, .int 0]) (rest := []) ⟨hx, hb, hml, hown, hts⟩ (c_V_nextIn l D [(cM, .object R_C), (cH, .int), (cW, .boolean), (cL, .int), (cB, .int), (cS, .object R_T)] v41 0 v49 hc49) (va_cwS 2 hts (zg_S k_319 k_320 k_29 g_V_nextIn) rfl rfl rfl hd_V_nextIn ⟨Nat.le_of_ble_eq_true rfl, Nat.le_of_ble_eq_true rfl⟩) ⟨zro_b _, zro_p va_Pnil hK hN _⟩ rfl rfl hl.1 rfl (lv_room (Nat.le_of_ble_eq_true rfl)) d_V_meet_49 ⟨Nat.zero_le _, Nat.zero_le _⟩)) (fun r_49 er_49 => ?_)
          have er_49 := er_49.symm
          subst er_49
          refine lv_istore (lv' := [(8, .int v49), (6, .long v41), (5, .ref y_9), (4, .ref y_2), (0, .ref (q 0)), (1, .int k), (2, .int j), (3, .int i)]) hx hb d_V_meet_52 hl (by decide) rfl (fun ls hl => ?_)
          refine lv_iconst (v := 0) hx hb d_V_meet_54 (by decide) ?_
          refine lv_istore (lv' := [(9, .int 0), (8, .int v49), (6, .long v41), (5, .ref y_9), (4, .ref y_2), (0, .ref (q 0)), (1, .int k), (2, .int j), (3, .int i)]) hx hb d_V_meet_55 hl (by decide) rfl (fun ls hl => ?_)
          obtain ⟨w57, hL57, hres⟩ := zo_b hres
          have hk57 : ∀ (ls : Array Slot), lv_has ls 10 [(9, .int w57.1), (8, .int w57.2), (6, .long v41), (5, .ref y_9), (4, .ref y_2), (0, .ref (q 0)), (1, .int k), (2, .int j), (3, .int i)] → W p l e (headSpec w_V_meet ({ frames := 2, cells := 0, slots := 0, locals := 49 } : Room)).room s m ([.ref (q 0), .int k, .int j, .int i].toArray) below meth c s.heap [] 0 0 (MQ below (vp_Si (fun r : Int32 => r = v)) ([.ref (q 0), .int k, .int j, .int i].toArray) s 0 0 (fun _ => False)) (F0 m 86 ls []) := by
            intro ls hl
            refine lv_iload hx hb d_V_meet_86 (lv_at hl 1 rfl) ?_
            refine lv_iconst (v := (-1)) hx hb d_V_meet_88 (by decide) ?_
            refine lv_icmp_ne (tgt := 96) hx hb d_V_meet_89 (by decide) (fun c_89 => ?_) (fun c_89 => ?_)
            · have hres := zi_n c_89 hres
              refine lv_iload hx hb d_V_meet_96 (lv_at hl 1 rfl) ?_
              obtain rfl := Option.some.inj hres
              exact W.iret (v := w57.2) hx hb hr (fun t ht hW => ⟨_, rfl, rfl, ht⟩) (fun _ hq => by cases hq) d_V_meet_98
            · have hres := zi_p c_89 hres
              refine lv_iconst (v := (-1)) hx hb d_V_meet_92 (by decide) ?_
              refine lv_goto (tgt := 98) hx hb d_V_meet_93 (by decide) ?_
              obtain rfl := Option.some.inj hres
              exact W.iret (v := (-1)) hx hb hr (fun t ht hW => ⟨_, rfl, rfl, ht⟩) (fun _ hq => by cases hq) d_V_meet_98
          have hloop57 : ∀ (n : Nat) (x57_9 : Int32) (x57_8 : Int32) (ls : Array Slot), lv_has ls 10 [(9, .int x57_9), (8, .int x57_8), (6, .long v41), (5, .ref y_9), (4, .ref y_2), (0, .ref (q 0)), (1, .int k), (2, .int j), (3, .int i)] → L_V_meet_57 i v41 n x57_9 x57_8 = some w57 → W p l e (headSpec w_V_meet ({ frames := 2, cells := 0, slots := 0, locals := 49 } : Room)).room s m ([.ref (q 0), .int k, .int j, .int i].toArray) below meth c s.heap [] 0 0 (MQ below (vp_Si (fun r : Int32 => r = v)) ([.ref (q 0), .int k, .int j, .int i].toArray) s 0 0 (fun _ => False)) (F0 m 57 ls []) := by
            intro n
            induction n with
            | zero => intro x57_9 x57_8 ls hl hL57; cases hL57
            | succ n ih =>
              intro x57_9 x57_8 ls hl hL57
              rw [L_V_meet_57] at hL57
              refine lv_iload hx hb d_V_meet_57 (lv_at hl 0 rfl) ?_
              refine lv_iload_n hx hb d_V_meet_59 rfl (lv_at hl 8 rfl) ?_
              refine lv_icmp_ge (tgt := 86) hx hb d_V_meet_60 (by decide) (fun c_60 => ?_) (fun c_60 => ?_)
              · have hL57 := zi_p c_60 hL57
                obtain rfl := Option.some.inj hL57
                exact hk57 ls (lv_sub hl [0, 1, 2, 3, 4, 5, 6, 7, 8] rfl)
              · have hL57 := zi_n c_60 hL57
                refine lv_iload hx hb d_V_meet_63 (lv_at hl 1 rfl) ?_
                refine lv_iconst (v := (-1)) hx hb d_V_meet_65 (by decide) ?_
                refine lv_icmp_eq (tgt := 86) hx hb d_V_meet_66 (by decide) (fun c_66 => ?_) (fun c_66 => ?_)
                · have hL57 := zi_p c_66 hL57
                  obtain rfl := Option.some.inj hL57
                  exact hk57 ls (lv_sub hl [0, 1, 2, 3, 4, 5, 6, 7, 8] rfl)
                · have hL57 := zi_n c_66 hL57
                  refine lv_lload hx hb d_V_meet_69 (lv_at hl 2 rfl) ?_
                  refine lv_iload hx hb d_V_meet_71 (lv_at hl 1 rfl) ?_
                  refine lv_iconst (v := 1) hx hb d_V_meet_73 (by decide) ?_
                  refine lv_iadd hx hb d_V_meet_74 ?_
                  obtain ⟨v75, hc75, hL57⟩ := zo_b hL57
                  refine vp_callSi (va_Run.run (va_runS (As := [.long v41, .int (x57_8 + 1)]) (rest := []) ⟨hx, hb, hml, hown, hts⟩ (c_V_nextIn l D [(cM, .object R_C), (cH, .int), (cW, .boolean), (cL, .int), (cB, .int), (cS, .object R_T)] v41 (x57_8 + 1) v75 hc75) (va_cwS 2 hts (zg_S k_319 k_320 k_29 g_V_nextIn) rfl rfl rfl hd_V_nextIn ⟨Nat.le_of_ble_eq_true rfl, Nat.le_of_ble_eq_true rfl⟩) ⟨zro_b _, zro_p va_Pnil hK hN _⟩ rfl rfl hl.1 rfl (lv_room (Nat.le_of_ble_eq_true rfl)) d_V_meet_75 ⟨Nat.zero_le _, Nat.zero_le _⟩)) (fun r_75 er_75 => ?_)
                  have er_75 := er_75.symm
                  subst er_75
                  refine lv_istore (lv' := [(8, .int v75), (9, .int x57_9), (6, .long v41), (5, .ref y_9), (4, .ref y_2), (0, .ref (q 0)), (1, .int k), (2, .int j), (3, .int i)]) hx hb d_V_meet_78 hl (by decide) rfl (fun ls hl => ?_)
                  refine lv_iinc (v := (x57_9 + 1)) (lv' := [(9, .int (x57_9 + 1)), (8, .int v75), (6, .long v41), (5, .ref y_9), (4, .ref y_2), (0, .ref (q 0)), (1, .int k), (2, .int j), (3, .int i)]) hx hb d_V_meet_80 hl (k := 1) rfl rfl (by decide) rfl (fun ls hl => ?_)
                  refine lv_goto (tgt := 57) hx hb d_V_meet_83 (by decide) ?_
                  exact ih (x57_9 + 1) v75 ls (lv_sub hl [0, 1, 2, 3, 4, 5, 6, 7, 8] rfl) hL57
          exact hloop57 zfuel 0 v49 ls (lv_sub hl [0, 1, 2, 3, 4, 5, 6, 7, 8] rfl) hL57
        · have hres := zi_n c_31 hres
          refine lv_iconst (v := (-1)) hx hb d_V_meet_34 (by decide) ?_
          obtain rfl := Option.some.inj hres
          exact W.iret (v := (-1)) hx hb hr (fun t ht hW => ⟨_, rfl, rfl, ht⟩) (fun _ hq => by cases hq) d_V_meet_35
abbrev qd_V_moveHead (D : va_G) (tys : List (ClassId × FieldType)) (q : Nat → Nat) (cM : ClassId) (cH : ClassId) (cW : ClassId) (cL : ClassId) (cB : ClassId) (cS : ClassId) (em : TreeV) (pl : va_W) (cm : Nat → Option ComV) (tm : Nat → Option TreeV) (σ : VSt) (k : Int32) (j : Int32) (v : VSt) (A : Nat → Prop) : Array Value → State → Outcome → State → Prop := va_Qv (fun _ : Unit => True) (fun _ t => zwd D [(cM, .object R_C), (cH, .int), (cW, .boolean), (cL, .int), (cB, .int), (cS, .object R_T)] (A) (zX q cM cH cW cL cB cS em v ++ pl) t) (A)

def f_V_moveHead (em : TreeV) (cm : Nat → Option ComV) (tm : Nat → Option TreeV) (σ : VSt) (k : Int32) (j : Int32) : Option (VSt) :=
  if zin k 4 then
    if (σ.2.2.2.1 k.toNatClampNeg) = j then
      some σ
    else
      if zin k 4 then
        if zin k 4 then
          if (σ.2.2.2.2.1 k.toNatClampNeg) = 0 then
            some (σ.1, σ.2.1, σ.2.2.1, (upd σ.2.2.2.1 k.toNatClampNeg j), σ.2.2.2.2.1, σ.2.2.2.2.2.1, σ.2.2.2.2.2.2.1, σ.2.2.2.2.2.2.2.1, σ.2.2.2.2.2.2.2.2.1, σ.2.2.2.2.2.2.2.2.2.1, σ.2.2.2.2.2.2.2.2.2.2.1, σ.2.2.2.2.2.2.2.2.2.2.2.1, σ.2.2.2.2.2.2.2.2.2.2.2.2)
          else
            if 100 ≤ σ.2.1 then
              some (σ.1, σ.2.1, σ.2.2.1, (upd σ.2.2.2.1 k.toNatClampNeg j), σ.2.2.2.2.1, σ.2.2.2.2.2.1, σ.2.2.2.2.2.2.1, σ.2.2.2.2.2.2.2.1, σ.2.2.2.2.2.2.2.2.1, σ.2.2.2.2.2.2.2.2.2.1, σ.2.2.2.2.2.2.2.2.2.2.1, σ.2.2.2.2.2.2.2.2.2.2.2.1, σ.2.2.2.2.2.2.2.2.2.2.2.2)
            else
              if zin σ.2.1 100 then
                some (σ.1, (σ.2.1 + 1), σ.2.2.1, (upd σ.2.2.2.1 k.toNatClampNeg j), σ.2.2.2.2.1, (upd σ.2.2.2.2.2.1 σ.2.1.toNatClampNeg (k + (4 * (j + 1)))), σ.2.2.2.2.2.2.1, σ.2.2.2.2.2.2.2.1, σ.2.2.2.2.2.2.2.2.1, σ.2.2.2.2.2.2.2.2.2.1, σ.2.2.2.2.2.2.2.2.2.2.1, σ.2.2.2.2.2.2.2.2.2.2.2.1, σ.2.2.2.2.2.2.2.2.2.2.2.2)
              else
                none
        else
          none
      else
        none
  else
    none
set_option maxHeartbeats 4000000 in
set_option maxRecDepth 100000 in
theorem c_V_moveHead (l : Launch) (D : va_G) (tys : List (ClassId × FieldType)) (sz : Nat) (q : Nat → Nat) (cM : ClassId) (cH : ClassId) (cW : ClassId) (cL : ClassId) (cB : ClassId) (cS : ClassId) (em : TreeV) (pl : va_W) (cm : Nat → Option ComV) (tm : Nat → Option TreeV) (hpl : zpool pl cm tm) (σ : VSt) (k : Int32) (j : Int32) (v : VSt) (hres : f_V_moveHead em cm tm σ k j = some v) : Met l y_V_moveHead w_V_moveHead ({ frames := 0, cells := 0, slots := 0, locals := 0 } : Room) (va_Pc ([.ref (q 0), .int k, .int j]) (zrw D [(cM, .object R_C), (cH, .int), (cW, .boolean), (cL, .int), (cB, .int), (cS, .object R_T)] sz (zX q cM cH cW cL cB cS em σ ++ pl))) (qd_V_moveHead D tys q cM cH cW cL cB cS em pl cm tm σ k j v (va_A (zX q cM cH cW cL cB cS em σ ++ pl) sz)) 0 0 (va_A (zX q cM cH cW cL cB cS em σ ++ pl) sz) := by
  refine Met.ofW (cc := b_V_moveHead) (maxL := 3) (ret := none) (by decide) rfl ?_
  intro p e s m args below meth c s₁ B hml hv
  obtain ⟨rfl, hsz, hP, hK, hD0, hN⟩ := hv
  have hx := B.exec
  have hb := B.bytes
  have hr := B.returns
  have hts : ∀ w ∈ zt, w.before ([.ref (q 0), .int k, .int j].toArray) s = true := fun w h => atoms_spec (ws := w_V_moveHead) B.pre w (List.mem_cons_of_mem _ h)
  have hown : s.vm.findClass R_V = some m.cls := findClass_of_methodNamed B.named
  have hlocks := B.notSynchronized
  subst hsz
  have hD := hD0.self (sz := s.heap.size)
  generalize hAe : va_A (zX q cM cH cW cL cB cS em σ ++ pl) s.heap.size = A at hD ⊢
  have hA : ∀ q : Nat, s.heap.size ≤ q → A q := fun q h => by rw [← hAe]; exact Or.inr h
  have hS : va_S A s.heap s.heap [] := va_S.rf
  have hP : va_P D vwCl (zX q cM cH cW cL cB cS em σ ++ pl) s.heap := hP
  have hD : va_D A (zX q cM cH cW cL cB cS em σ ++ pl) := hD
  have hl := lv_entry ([.ref (q 0), .int k, .int j]) (n := 3) (Nat.le_of_ble_eq_true rfl)
  rw [lg_entry_eq]
  generalize (lg_sl ([.ref (q 0), .int k, .int j]) ++ List.replicate (3 - (lg_sl ([.ref (q 0), .int k, .int j])).length) Slot.unset).toArray = ls at hl ⊢
  have hl : lv_has ls 3 [(0, .ref (q 0)), (1, .int k), (2, .int j)] := hl
  unfold f_V_moveHead at hres
  refine lv_aload_n hx hb d_V_moveHead_0 rfl (lv_at hl 0 rfl) ?_
  refine va_get (D := D) (ci := 3) (v := .ref (q 2)) (C := R_V) (T := T_V) (N := 10) hx hb hts in_V hown hK hP (0) rfl rfl 2 (by decide) (hts _ k_138) (fun _ h9 => h9) rfl d_V_moveHead_1 ?_
  refine lv_iload_n hx hb d_V_moveHead_4 rfl (lv_at hl 1 rfl) ?_
  by_cases ck_5 : zin k 4
  · have hres := zi_p ck_5 hres
    refine va_iald hx hb hK hP 2 1 rfl rfl ck_5 d_V_moveHead_5 ?_
    refine lv_iload_n hx hb d_V_moveHead_6 rfl (lv_at hl 2 rfl) ?_
    refine lv_icmp_ne (tgt := 11) hx hb d_V_moveHead_7 (by decide) (fun c_7 => ?_) (fun c_7 => ?_)
    · have hres := zi_n c_7 hres
      refine lv_aload_n hx hb d_V_moveHead_11 rfl (lv_at hl 0 rfl) ?_
      refine va_get (D := D) (ci := 3) (v := .ref (q 2)) (C := R_V) (T := T_V) (N := 10) hx hb hts in_V hown hK hP (0) rfl rfl 2 (by decide) (hts _ k_138) (fun _ h9 => h9) rfl d_V_moveHead_12 ?_
      refine lv_iload_n hx hb d_V_moveHead_15 rfl (lv_at hl 1 rfl) ?_
      refine lv_iload_n hx hb d_V_moveHead_16 rfl (lv_at hl 2 rfl) ?_
      by_cases ck_17 : zin k 4
      · have hres := zi_p ck_17 hres
        refine va_iast hx hb hK hP hD hS 2 1 rfl rfl ck_17 d_V_moveHead_17 (fun H locs hP hD hS => ?_)
        have hP : va_P D vwCl ([(q 0, .inr (3, [.ref (q 1), .int σ.1, .ref (q 2), .ref (q 3), .ref (q 4), .int σ.2.1, .ref (q 5), .ref (q 7), .ref (q 6), .ref (q 9)])), (q 1, .inl (cM, 60, .inr (.inr (.inr (.inr σ.2.2.1))))), (q 2, .inl (cH, 4, .inl (upd σ.2.2.2.1 k.toNatClampNeg j))), (q 3, .inl (cW, 4, .inl σ.2.2.2.2.1)), (q 4, .inl (cL, 100, .inl σ.2.2.2.2.2.1)), (q 5, zcT em), (q 6, zcT σ.2.2.2.2.2.2.1), (q 7, .inr (2, [.ref (q 8)])), (q 8, .inl (cB, 16, .inl σ.2.2.2.2.2.2.2.1)), (q 9, .inl (cS, 5, .inr (.inr (.inr (.inr (zbs q)))))), (q 10, zcT σ.2.2.2.2.2.2.2.2.1), (q 11, zcT σ.2.2.2.2.2.2.2.2.2.1), (q 12, zcT σ.2.2.2.2.2.2.2.2.2.2.1), (q 13, zcT σ.2.2.2.2.2.2.2.2.2.2.2.1), (q 14, zcT σ.2.2.2.2.2.2.2.2.2.2.2.2)] ++ pl) H := hP
        have hD : va_D A ([(q 0, .inr (3, [.ref (q 1), .int σ.1, .ref (q 2), .ref (q 3), .ref (q 4), .int σ.2.1, .ref (q 5), .ref (q 7), .ref (q 6), .ref (q 9)])), (q 1, .inl (cM, 60, .inr (.inr (.inr (.inr σ.2.2.1))))), (q 2, .inl (cH, 4, .inl (upd σ.2.2.2.1 k.toNatClampNeg j))), (q 3, .inl (cW, 4, .inl σ.2.2.2.2.1)), (q 4, .inl (cL, 100, .inl σ.2.2.2.2.2.1)), (q 5, zcT em), (q 6, zcT σ.2.2.2.2.2.2.1), (q 7, .inr (2, [.ref (q 8)])), (q 8, .inl (cB, 16, .inl σ.2.2.2.2.2.2.2.1)), (q 9, .inl (cS, 5, .inr (.inr (.inr (.inr (zbs q)))))), (q 10, zcT σ.2.2.2.2.2.2.2.2.1), (q 11, zcT σ.2.2.2.2.2.2.2.2.2.1), (q 12, zcT σ.2.2.2.2.2.2.2.2.2.2.1), (q 13, zcT σ.2.2.2.2.2.2.2.2.2.2.2.1), (q 14, zcT σ.2.2.2.2.2.2.2.2.2.2.2.2)] ++ pl) := hD
        refine lv_aload_n hx hb d_V_moveHead_18 rfl (lv_at hl 0 rfl) ?_
        refine va_get (D := D) (ci := 3) (v := .ref (q 3)) (C := R_V) (T := T_V) (N := 10) hx hb hts in_V hown hK hP (0) rfl rfl 3 (by decide) (hts _ k_139) (fun _ h9 => h9) rfl d_V_moveHead_19 ?_
        refine lv_iload_n hx hb d_V_moveHead_22 rfl (lv_at hl 1 rfl) ?_
        by_cases ck_23 : zin k 4
        · have hres := zi_p ck_23 hres
          refine va_zald hx hb hK hP 3 2 rfl rfl ck_23 d_V_moveHead_23 ?_
          refine lv_if_eq (tgt := 62) hx hb d_V_moveHead_24 (by decide) (fun c_24 => ?_) (fun c_24 => ?_)
          · have hres := zi_p c_24 hres
            obtain rfl := Option.some.inj hres
            exact W.vret hx hb hr (fun t ht hW => ⟨⟨(), rfl, trivial, by rw [ht]; exact hP, va_K.moved hW.alike hK, hD⟩, hS.F ht⟩) hS.2.2 d_V_moveHead_62
          · have hres := zi_n c_24 hres
            refine lv_aload_n hx hb d_V_moveHead_27 rfl (lv_at hl 0 rfl) ?_
            refine va_get (D := D) (ci := 3) (v := .int σ.2.1) (C := R_V) (T := T_V) (N := 10) hx hb hts in_V hown hK hP (0) rfl rfl 5 (by decide) (hts _ k_141) (fun _ h9 => h9) rfl d_V_moveHead_28 ?_
            refine lv_bipush (v := 100) hx hb d_V_moveHead_31 (by decide) ?_
            refine lv_icmp_ge (tgt := 62) hx hb d_V_moveHead_33 (by decide) (fun c_33 => ?_) (fun c_33 => ?_)
            · have hres := zi_p c_33 hres
              obtain rfl := Option.some.inj hres
              exact W.vret hx hb hr (fun t ht hW => ⟨⟨(), rfl, trivial, by rw [ht]; exact hP, va_K.moved hW.alike hK, hD⟩, hS.F ht⟩) hS.2.2 d_V_moveHead_62
            · have hres := zi_n c_33 hres
              refine lv_aload_n hx hb d_V_moveHead_36 rfl (lv_at hl 0 rfl) ?_
              refine va_get (D := D) (ci := 3) (v := .ref (q 4)) (C := R_V) (T := T_V) (N := 10) hx hb hts in_V hown hK hP (0) rfl rfl 4 (by decide) (hts _ k_140) (fun _ h9 => h9) rfl d_V_moveHead_37 ?_
              refine lv_aload_n hx hb d_V_moveHead_40 rfl (lv_at hl 0 rfl) ?_
              refine va_get (D := D) (ci := 3) (v := .int σ.2.1) (C := R_V) (T := T_V) (N := 10) hx hb hts in_V hown hK hP (0) rfl rfl 5 (by decide) (hts _ k_141) (fun _ h9 => h9) rfl d_V_moveHead_41 ?_
              refine lv_iload_n hx hb d_V_moveHead_44 rfl (lv_at hl 1 rfl) ?_
              refine lv_iconst (v := 4) hx hb d_V_moveHead_45 (by decide) ?_
              refine lv_iload_n hx hb d_V_moveHead_46 rfl (lv_at hl 2 rfl) ?_
              refine lv_iconst (v := 1) hx hb d_V_moveHead_47 (by decide) ?_
              refine lv_iadd hx hb d_V_moveHead_48 ?_
              refine lv_imul hx hb d_V_moveHead_49 ?_
              refine lv_iadd hx hb d_V_moveHead_50 ?_
              by_cases ck_51 : zin σ.2.1 100
              · have hres := zi_p ck_51 hres
                refine va_iast hx hb hK hP hD hS 4 3 rfl rfl ck_51 d_V_moveHead_51 (fun H locs hP hD hS => ?_)
                have hP : va_P D vwCl ([(q 0, .inr (3, [.ref (q 1), .int σ.1, .ref (q 2), .ref (q 3), .ref (q 4), .int σ.2.1, .ref (q 5), .ref (q 7), .ref (q 6), .ref (q 9)])), (q 1, .inl (cM, 60, .inr (.inr (.inr (.inr σ.2.2.1))))), (q 2, .inl (cH, 4, .inl (upd σ.2.2.2.1 k.toNatClampNeg j))), (q 3, .inl (cW, 4, .inl σ.2.2.2.2.1)), (q 4, .inl (cL, 100, .inl (upd σ.2.2.2.2.2.1 σ.2.1.toNatClampNeg (k + (4 * (j + 1)))))), (q 5, zcT em), (q 6, zcT σ.2.2.2.2.2.2.1), (q 7, .inr (2, [.ref (q 8)])), (q 8, .inl (cB, 16, .inl σ.2.2.2.2.2.2.2.1)), (q 9, .inl (cS, 5, .inr (.inr (.inr (.inr (zbs q)))))), (q 10, zcT σ.2.2.2.2.2.2.2.2.1), (q 11, zcT σ.2.2.2.2.2.2.2.2.2.1), (q 12, zcT σ.2.2.2.2.2.2.2.2.2.2.1), (q 13, zcT σ.2.2.2.2.2.2.2.2.2.2.2.1), (q 14, zcT σ.2.2.2.2.2.2.2.2.2.2.2.2)] ++ pl) H := hP
                have hD : va_D A ([(q 0, .inr (3, [.ref (q 1), .int σ.1, .ref (q 2), .ref (q 3), .ref (q 4), .int σ.2.1, .ref (q 5), .ref (q 7), .ref (q 6), .ref (q 9)])), (q 1, .inl (cM, 60, .inr (.inr (.inr (.inr σ.2.2.1))))), (q 2, .inl (cH, 4, .inl (upd σ.2.2.2.1 k.toNatClampNeg j))), (q 3, .inl (cW, 4, .inl σ.2.2.2.2.1)), (q 4, .inl (cL, 100, .inl (upd σ.2.2.2.2.2.1 σ.2.1.toNatClampNeg (k + (4 * (j + 1)))))), (q 5, zcT em), (q 6, zcT σ.2.2.2.2.2.2.1), (q 7, .inr (2, [.ref (q 8)])), (q 8, .inl (cB, 16, .inl σ.2.2.2.2.2.2.2.1)), (q 9, .inl (cS, 5, .inr (.inr (.inr (.inr (zbs q)))))), (q 10, zcT σ.2.2.2.2.2.2.2.2.1), (q 11, zcT σ.2.2.2.2.2.2.2.2.2.1), (q 12, zcT σ.2.2.2.2.2.2.2.2.2.2.1), (q 13, zcT σ.2.2.2.2.2.2.2.2.2.2.2.1), (q 14, zcT σ.2.2.2.2.2.2.2.2.2.2.2.2)] ++ pl) := hD
                refine lv_aload_n hx hb d_V_moveHead_52 rfl (lv_at hl 0 rfl) ?_
                refine lv_dup hx hb d_V_moveHead_53 rfl ?_
                refine va_get (D := D) (ci := 3) (v := .int σ.2.1) (C := R_V) (T := T_V) (N := 10) hx hb hts in_V hown hK hP (0) rfl rfl 5 (by decide) (hts _ k_141) (fun _ h9 => h9) rfl d_V_moveHead_54 ?_
                refine lv_iconst (v := 1) hx hb d_V_moveHead_57 (by decide) ?_
                refine lv_iadd hx hb d_V_moveHead_58 ?_
                refine va_put (D := D) (ci := 3) (v := .int (σ.2.1 + 1)) (ty := .int) (C := R_V) (T := T_V) (N := 10) hx hb hts in_V ty_V ok_V nm_V hown hK hP hD hS 0 rfl rfl 5 (by decide) (hts _ k_141) (fun _ h9 => h9) rfl (by decide +kernel) rfl rfl (Nat.le_of_ble_eq_true rfl) d_V_moveHead_59 (fun H locs hP hD hS => ?_)
                have hP : va_P D vwCl ([(q 0, .inr (3, [.ref (q 1), .int σ.1, .ref (q 2), .ref (q 3), .ref (q 4), .int (σ.2.1 + 1), .ref (q 5), .ref (q 7), .ref (q 6), .ref (q 9)])), (q 1, .inl (cM, 60, .inr (.inr (.inr (.inr σ.2.2.1))))), (q 2, .inl (cH, 4, .inl (upd σ.2.2.2.1 k.toNatClampNeg j))), (q 3, .inl (cW, 4, .inl σ.2.2.2.2.1)), (q 4, .inl (cL, 100, .inl (upd σ.2.2.2.2.2.1 σ.2.1.toNatClampNeg (k + (4 * (j + 1)))))), (q 5, zcT em), (q 6, zcT σ.2.2.2.2.2.2.1), (q 7, .inr (2, [.ref (q 8)])), (q 8, .inl (cB, 16, .inl σ.2.2.2.2.2.2.2.1)), (q 9, .inl (cS, 5, .inr (.inr (.inr (.inr (zbs q)))))), (q 10, zcT σ.2.2.2.2.2.2.2.2.1), (q 11, zcT σ.2.2.2.2.2.2.2.2.2.1), (q 12, zcT σ.2.2.2.2.2.2.2.2.2.2.1), (q 13, zcT σ.2.2.2.2.2.2.2.2.2.2.2.1), (q 14, zcT σ.2.2.2.2.2.2.2.2.2.2.2.2)] ++ pl) H := hP
                have hD : va_D A ([(q 0, .inr (3, [.ref (q 1), .int σ.1, .ref (q 2), .ref (q 3), .ref (q 4), .int (σ.2.1 + 1), .ref (q 5), .ref (q 7), .ref (q 6), .ref (q 9)])), (q 1, .inl (cM, 60, .inr (.inr (.inr (.inr σ.2.2.1))))), (q 2, .inl (cH, 4, .inl (upd σ.2.2.2.1 k.toNatClampNeg j))), (q 3, .inl (cW, 4, .inl σ.2.2.2.2.1)), (q 4, .inl (cL, 100, .inl (upd σ.2.2.2.2.2.1 σ.2.1.toNatClampNeg (k + (4 * (j + 1)))))), (q 5, zcT em), (q 6, zcT σ.2.2.2.2.2.2.1), (q 7, .inr (2, [.ref (q 8)])), (q 8, .inl (cB, 16, .inl σ.2.2.2.2.2.2.2.1)), (q 9, .inl (cS, 5, .inr (.inr (.inr (.inr (zbs q)))))), (q 10, zcT σ.2.2.2.2.2.2.2.2.1), (q 11, zcT σ.2.2.2.2.2.2.2.2.2.1), (q 12, zcT σ.2.2.2.2.2.2.2.2.2.2.1), (q 13, zcT σ.2.2.2.2.2.2.2.2.2.2.2.1), (q 14, zcT σ.2.2.2.2.2.2.2.2.2.2.2.2)] ++ pl) := hD
                obtain rfl := Option.some.inj hres
                exact W.vret hx hb hr (fun t ht hW => ⟨⟨(), rfl, trivial, by rw [ht]; exact hP, va_K.moved hW.alike hK, hD⟩, hS.F ht⟩) hS.2.2 d_V_moveHead_62
              · exact absurd (zi_n ck_51 hres) (by simp)
        · exact absurd (zi_n ck_23 hres) (by simp)
      · exact absurd (zi_n ck_17 hres) (by simp)
    · have hres := zi_p c_7 hres
      obtain rfl := Option.some.inj hres
      exact W.vret hx hb hr (fun t ht hW => ⟨⟨(), rfl, trivial, by rw [ht]; exact hP, va_K.moved hW.alike hK, hD⟩, hS.F ht⟩) hS.2.2 d_V_moveHead_10
  · exact absurd (zi_n ck_5 hres) (by simp)
abbrev qd_V_watch (D : va_G) (tys : List (ClassId × FieldType)) (q : Nat → Nat) (cM : ClassId) (cH : ClassId) (cW : ClassId) (cL : ClassId) (cB : ClassId) (cS : ClassId) (em : TreeV) (pl : va_W) (cm : Nat → Option ComV) (tm : Nat → Option TreeV) (σ : VSt) (k : Int32) (j : Int32) (v : Int32 × VSt) (A : Nat → Prop) : Array Value → State → Outcome → State → Prop := va_Qi (fun (r : Int32) (_ : Unit) => r = v.1) (fun _ t => zwd D [(cM, .object R_C), (cH, .int), (cW, .boolean), (cL, .int), (cB, .int), (cS, .object R_T)] (A) (zX q cM cH cW cL cB cS em v.2 ++ pl) t) (A)

def f_V_watch (em : TreeV) (cm : Nat → Option ComV) (tm : Nat → Option TreeV) (σ : VSt) (k : Int32) (j : Int32) : Option (Int32 × VSt) :=
  Option.bind (f_V_isBranch k) (fun v1 =>
    if v1 = 0 then
      some (0, σ)
    else
      if zin k 4 then
        some (1, (σ.1, σ.2.1, σ.2.2.1, σ.2.2.2.1, (upd σ.2.2.2.2.1 k.toNatClampNeg (vp_nar .boolean j)), σ.2.2.2.2.2.1, σ.2.2.2.2.2.2.1, σ.2.2.2.2.2.2.2.1, σ.2.2.2.2.2.2.2.2.1, σ.2.2.2.2.2.2.2.2.2.1, σ.2.2.2.2.2.2.2.2.2.2.1, σ.2.2.2.2.2.2.2.2.2.2.2.1, σ.2.2.2.2.2.2.2.2.2.2.2.2))
      else
        none)
set_option maxHeartbeats 4000000 in
set_option maxRecDepth 100000 in
theorem c_V_watch (l : Launch) (D : va_G) (tys : List (ClassId × FieldType)) (sz : Nat) (q : Nat → Nat) (cM : ClassId) (cH : ClassId) (cW : ClassId) (cL : ClassId) (cB : ClassId) (cS : ClassId) (em : TreeV) (pl : va_W) (cm : Nat → Option ComV) (tm : Nat → Option TreeV) (hpl : zpool pl cm tm) (σ : VSt) (k : Int32) (j : Int32) (v : Int32 × VSt) (hres : f_V_watch em cm tm σ k j = some v) : Met l y_V_watch w_V_watch ({ frames := 1, cells := 0, slots := 0, locals := 20 } : Room) (va_Pc ([.ref (q 0), .int k, .int j]) (zrw D [(cM, .object R_C), (cH, .int), (cW, .boolean), (cL, .int), (cB, .int), (cS, .object R_T)] sz (zX q cM cH cW cL cB cS em σ ++ pl))) (qd_V_watch D tys q cM cH cW cL cB cS em pl cm tm σ k j v (va_A (zX q cM cH cW cL cB cS em σ ++ pl) sz)) 0 0 (va_A (zX q cM cH cW cL cB cS em σ ++ pl) sz) := by
  refine Met.ofW (cc := b_V_watch) (maxL := 3) (ret := (some .boolean)) (by decide) rfl ?_
  intro p e s m args below meth c s₁ B hml hv
  obtain ⟨rfl, hsz, hP, hK, hD0, hN⟩ := hv
  have hx := B.exec
  have hb := B.bytes
  have hr := B.returns
  have hts : ∀ w ∈ zt, w.before ([.ref (q 0), .int k, .int j].toArray) s = true := fun w h => atoms_spec (ws := w_V_watch) B.pre w (List.mem_cons_of_mem _ h)
  have hown : s.vm.findClass R_V = some m.cls := findClass_of_methodNamed B.named
  have hlocks := B.notSynchronized
  subst hsz
  have hD := hD0.self (sz := s.heap.size)
  generalize hAe : va_A (zX q cM cH cW cL cB cS em σ ++ pl) s.heap.size = A at hD ⊢
  have hA : ∀ q : Nat, s.heap.size ≤ q → A q := fun q h => by rw [← hAe]; exact Or.inr h
  have hS : va_S A s.heap s.heap [] := va_S.rf
  have hP : va_P D vwCl (zX q cM cH cW cL cB cS em σ ++ pl) s.heap := hP
  have hD : va_D A (zX q cM cH cW cL cB cS em σ ++ pl) := hD
  have hl := lv_entry ([.ref (q 0), .int k, .int j]) (n := 3) (Nat.le_of_ble_eq_true rfl)
  rw [lg_entry_eq]
  generalize (lg_sl ([.ref (q 0), .int k, .int j]) ++ List.replicate (3 - (lg_sl ([.ref (q 0), .int k, .int j])).length) Slot.unset).toArray = ls at hl ⊢
  have hl : lv_has ls 3 [(0, .ref (q 0)), (1, .int k), (2, .int j)] := hl
  unfold f_V_watch at hres
  refine lv_iload_n hx hb d_V_watch_0 rfl (lv_at hl 1 rfl) ?_
  obtain ⟨v1, hc1, hres⟩ := zo_b hres
  refine vp_callSi (va_Run.run (va_runS (As := [.int k]) (rest := []) ⟨hx, hb, hml, hown, hts⟩ (c_V_isBranch l D [(cM, .object R_C), (cH, .int), (cW, .boolean), (cL, .int), (cB, .int), (cS, .object R_T)] k v1 hc1) (va_cwS 1 hts (zg_S k_171 k_172 k_29 g_V_isBranch) rfl rfl rfl hd_V_isBranch ⟨Nat.le_of_ble_eq_true rfl, Nat.le_of_ble_eq_true rfl⟩) ⟨zro_b _, zro_p va_Pnil hK hN _⟩ rfl rfl hl.1 rfl (lv_room (Nat.le_of_ble_eq_true rfl)) d_V_watch_1 ⟨Nat.zero_le _, Nat.zero_le _⟩)) (fun r_1 er_1 => ?_)
  have er_1 := er_1.symm
  subst er_1
  refine lv_if_ne (tgt := 9) hx hb d_V_watch_4 (by decide) (fun c_4 => ?_) (fun c_4 => ?_)
  · have hres := zi_n c_4 hres
    refine lv_aload_n hx hb d_V_watch_9 rfl (lv_at hl 0 rfl) ?_
    refine va_get (D := D) (ci := 3) (v := .ref (q 3)) (C := R_V) (T := T_V) (N := 10) hx hb hts in_V hown hK hP (0) rfl rfl 3 (by decide) (hts _ k_139) (fun _ h9 => h9) rfl d_V_watch_10 ?_
    refine lv_iload_n hx hb d_V_watch_13 rfl (lv_at hl 1 rfl) ?_
    refine lv_iload_n hx hb d_V_watch_14 rfl (lv_at hl 2 rfl) ?_
    by_cases ck_15 : zin k 4
    · have hres := zi_p ck_15 hres
      refine va_zast hx hb hK hP hD hS 3 2 rfl rfl ck_15 d_V_watch_15 (fun H locs hP hD hS => ?_)
      have hP : va_P D vwCl ([(q 0, .inr (3, [.ref (q 1), .int σ.1, .ref (q 2), .ref (q 3), .ref (q 4), .int σ.2.1, .ref (q 5), .ref (q 7), .ref (q 6), .ref (q 9)])), (q 1, .inl (cM, 60, .inr (.inr (.inr (.inr σ.2.2.1))))), (q 2, .inl (cH, 4, .inl σ.2.2.2.1)), (q 3, .inl (cW, 4, .inl (upd σ.2.2.2.2.1 k.toNatClampNeg (vp_nar .boolean j)))), (q 4, .inl (cL, 100, .inl σ.2.2.2.2.2.1)), (q 5, zcT em), (q 6, zcT σ.2.2.2.2.2.2.1), (q 7, .inr (2, [.ref (q 8)])), (q 8, .inl (cB, 16, .inl σ.2.2.2.2.2.2.2.1)), (q 9, .inl (cS, 5, .inr (.inr (.inr (.inr (zbs q)))))), (q 10, zcT σ.2.2.2.2.2.2.2.2.1), (q 11, zcT σ.2.2.2.2.2.2.2.2.2.1), (q 12, zcT σ.2.2.2.2.2.2.2.2.2.2.1), (q 13, zcT σ.2.2.2.2.2.2.2.2.2.2.2.1), (q 14, zcT σ.2.2.2.2.2.2.2.2.2.2.2.2)] ++ pl) H := hP
      have hD : va_D A ([(q 0, .inr (3, [.ref (q 1), .int σ.1, .ref (q 2), .ref (q 3), .ref (q 4), .int σ.2.1, .ref (q 5), .ref (q 7), .ref (q 6), .ref (q 9)])), (q 1, .inl (cM, 60, .inr (.inr (.inr (.inr σ.2.2.1))))), (q 2, .inl (cH, 4, .inl σ.2.2.2.1)), (q 3, .inl (cW, 4, .inl (upd σ.2.2.2.2.1 k.toNatClampNeg (vp_nar .boolean j)))), (q 4, .inl (cL, 100, .inl σ.2.2.2.2.2.1)), (q 5, zcT em), (q 6, zcT σ.2.2.2.2.2.2.1), (q 7, .inr (2, [.ref (q 8)])), (q 8, .inl (cB, 16, .inl σ.2.2.2.2.2.2.2.1)), (q 9, .inl (cS, 5, .inr (.inr (.inr (.inr (zbs q)))))), (q 10, zcT σ.2.2.2.2.2.2.2.2.1), (q 11, zcT σ.2.2.2.2.2.2.2.2.2.1), (q 12, zcT σ.2.2.2.2.2.2.2.2.2.2.1), (q 13, zcT σ.2.2.2.2.2.2.2.2.2.2.2.1), (q 14, zcT σ.2.2.2.2.2.2.2.2.2.2.2.2)] ++ pl) := hD
      refine lv_iconst (v := 1) hx hb d_V_watch_16 (by decide) ?_
      obtain rfl := Option.some.inj hres
      exact W.zret (v := 1) (ty := .boolean) hx hb hr rfl (fun t ht hW => ⟨⟨_, (), rfl, rfl, by rw [ht]; exact hP, va_K.moved hW.alike hK, hD⟩, hS.F ht⟩) hS.2.2 d_V_watch_17
    · exact absurd (zi_n ck_15 hres) (by simp)
  · have hres := zi_p c_4 hres
    refine lv_iconst (v := 0) hx hb d_V_watch_7 (by decide) ?_
    obtain rfl := Option.some.inj hres
    exact W.zret (v := 0) (ty := .boolean) hx hb hr rfl (fun t ht hW => ⟨⟨_, (), rfl, rfl, by rw [ht]; exact hP, va_K.moved hW.alike hK, hD⟩, hS.F ht⟩) hS.2.2 d_V_watch_8
abbrev qd_V_fork (D : va_G) (tys : List (ClassId × FieldType)) (q : Nat → Nat) (cM : ClassId) (cH : ClassId) (cW : ClassId) (cL : ClassId) (cB : ClassId) (cS : ClassId) (em : TreeV) (pl : va_W) (cm : Nat → Option ComV) (tm : Nat → Option TreeV) (σ : VSt) (k : Int32) (j : Int32) (v : Int32 × VSt) (A : Nat → Prop) : Array Value → State → Outcome → State → Prop := va_Qi (fun (r : Int32) (_ : Unit) => r = v.1) (fun _ t => zwd D [(cM, .object R_C), (cH, .int), (cW, .boolean), (cL, .int), (cB, .int), (cS, .object R_T)] (A) (zX q cM cH cW cL cB cS em v.2 ++ pl) t) (A)

def f_V_fork (em : TreeV) (cm : Nat → Option ComV) (tm : Nat → Option TreeV) (σ : VSt) (k : Int32) (j : Int32) : Option (Int32 × VSt) :=
  Option.bind (f_V_isBranch k) (fun v1 =>
    if v1 = 0 then
      some (0, σ)
    else
      Option.bind (f_V_isBranch j) (fun v8 =>
        if v8 = 0 then
          some (0, σ)
        else
          if zin k 4 then
            Option.bind (f_V_moveHead em cm tm σ j (σ.2.2.2.1 k.toNatClampNeg)) (fun v24 =>
              some (1, v24))
          else
            none))
set_option maxHeartbeats 4000000 in
set_option maxRecDepth 100000 in
theorem c_V_fork (l : Launch) (D : va_G) (tys : List (ClassId × FieldType)) (sz : Nat) (q : Nat → Nat) (cM : ClassId) (cH : ClassId) (cW : ClassId) (cL : ClassId) (cB : ClassId) (cS : ClassId) (em : TreeV) (pl : va_W) (cm : Nat → Option ComV) (tm : Nat → Option TreeV) (hpl : zpool pl cm tm) (σ : VSt) (k : Int32) (j : Int32) (v : Int32 × VSt) (hres : f_V_fork em cm tm σ k j = some v) : Met l y_V_fork w_V_fork ({ frames := 1, cells := 0, slots := 0, locals := 22 } : Room) (va_Pc ([.ref (q 0), .int k, .int j]) (zrw D [(cM, .object R_C), (cH, .int), (cW, .boolean), (cL, .int), (cB, .int), (cS, .object R_T)] sz (zX q cM cH cW cL cB cS em σ ++ pl))) (qd_V_fork D tys q cM cH cW cL cB cS em pl cm tm σ k j v (va_A (zX q cM cH cW cL cB cS em σ ++ pl) sz)) 0 0 (va_A (zX q cM cH cW cL cB cS em σ ++ pl) sz) := by
  refine Met.ofW (cc := b_V_fork) (maxL := 3) (ret := (some .boolean)) (by decide) rfl ?_
  intro p e s m args below meth c s₁ B hml hv
  obtain ⟨rfl, hsz, hP, hK, hD0, hN⟩ := hv
  have hx := B.exec
  have hb := B.bytes
  have hr := B.returns
  have hts : ∀ w ∈ zt, w.before ([.ref (q 0), .int k, .int j].toArray) s = true := fun w h => atoms_spec (ws := w_V_fork) B.pre w (List.mem_cons_of_mem _ h)
  have hown : s.vm.findClass R_V = some m.cls := findClass_of_methodNamed B.named
  have hlocks := B.notSynchronized
  subst hsz
  have hD := hD0.self (sz := s.heap.size)
  generalize hAe : va_A (zX q cM cH cW cL cB cS em σ ++ pl) s.heap.size = A at hD ⊢
  have hA : ∀ q : Nat, s.heap.size ≤ q → A q := fun q h => by rw [← hAe]; exact Or.inr h
  have hS : va_S A s.heap s.heap [] := va_S.rf
  have hP : va_P D vwCl (zX q cM cH cW cL cB cS em σ ++ pl) s.heap := hP
  have hD : va_D A (zX q cM cH cW cL cB cS em σ ++ pl) := hD
  have hl := lv_entry ([.ref (q 0), .int k, .int j]) (n := 3) (Nat.le_of_ble_eq_true rfl)
  rw [lg_entry_eq]
  generalize (lg_sl ([.ref (q 0), .int k, .int j]) ++ List.replicate (3 - (lg_sl ([.ref (q 0), .int k, .int j])).length) Slot.unset).toArray = ls at hl ⊢
  have hl : lv_has ls 3 [(0, .ref (q 0)), (1, .int k), (2, .int j)] := hl
  unfold f_V_fork at hres
  refine lv_iload_n hx hb d_V_fork_0 rfl (lv_at hl 1 rfl) ?_
  obtain ⟨v1, hc1, hres⟩ := zo_b hres
  refine vp_callSi (va_Run.run (va_runS (As := [.int k]) (rest := []) ⟨hx, hb, hml, hown, hts⟩ (c_V_isBranch l D [(cM, .object R_C), (cH, .int), (cW, .boolean), (cL, .int), (cB, .int), (cS, .object R_T)] k v1 hc1) (va_cwS 1 hts (zg_S k_171 k_172 k_29 g_V_isBranch) rfl rfl rfl hd_V_isBranch ⟨Nat.le_of_ble_eq_true rfl, Nat.le_of_ble_eq_true rfl⟩) ⟨zro_b _, zro_p va_Pnil hK hN _⟩ rfl rfl hl.1 rfl (lv_room (Nat.le_of_ble_eq_true rfl)) d_V_fork_1 ⟨Nat.zero_le _, Nat.zero_le _⟩)) (fun r_1 er_1 => ?_)
  have er_1 := er_1.symm
  subst er_1
  refine lv_if_eq (tgt := 14) hx hb d_V_fork_4 (by decide) (fun c_4 => ?_) (fun c_4 => ?_)
  · have hres := zi_p c_4 hres
    refine lv_iconst (v := 0) hx hb d_V_fork_14 (by decide) ?_
    obtain rfl := Option.some.inj hres
    exact W.zret (v := 0) (ty := .boolean) hx hb hr rfl (fun t ht hW => ⟨⟨_, (), rfl, rfl, by rw [ht]; exact hP, va_K.moved hW.alike hK, hD⟩, hS.F ht⟩) hS.2.2 d_V_fork_15
  · have hres := zi_n c_4 hres
    refine lv_iload_n hx hb d_V_fork_7 rfl (lv_at hl 2 rfl) ?_
    obtain ⟨v8, hc8, hres⟩ := zo_b hres
    refine vp_callSi (va_Run.run (va_runS (As := [.int j]) (rest := []) ⟨hx, hb, hml, hown, hts⟩ (c_V_isBranch l D [(cM, .object R_C), (cH, .int), (cW, .boolean), (cL, .int), (cB, .int), (cS, .object R_T)] j v8 hc8) (va_cwS 1 hts (zg_S k_171 k_172 k_29 g_V_isBranch) rfl rfl rfl hd_V_isBranch ⟨Nat.le_of_ble_eq_true rfl, Nat.le_of_ble_eq_true rfl⟩) ⟨zro_b _, zro_p va_Pnil hK hN _⟩ rfl rfl hl.1 rfl (lv_room (Nat.le_of_ble_eq_true rfl)) d_V_fork_8 ⟨Nat.zero_le _, Nat.zero_le _⟩)) (fun r_8 er_8 => ?_)
    have er_8 := er_8.symm
    subst er_8
    refine lv_if_ne (tgt := 16) hx hb d_V_fork_11 (by decide) (fun c_11 => ?_) (fun c_11 => ?_)
    · have hres := zi_n c_11 hres
      refine lv_aload_n hx hb d_V_fork_16 rfl (lv_at hl 0 rfl) ?_
      refine lv_iload_n hx hb d_V_fork_17 rfl (lv_at hl 2 rfl) ?_
      refine lv_aload_n hx hb d_V_fork_18 rfl (lv_at hl 0 rfl) ?_
      refine va_get (D := D) (ci := 3) (v := .ref (q 2)) (C := R_V) (T := T_V) (N := 10) hx hb hts in_V hown hK hP (0) rfl rfl 2 (by decide) (hts _ k_138) (fun _ h9 => h9) rfl d_V_fork_19 ?_
      refine lv_iload_n hx hb d_V_fork_22 rfl (lv_at hl 1 rfl) ?_
      by_cases ck_23 : zin k 4
      · have hres := zi_p ck_23 hres
        refine va_iald hx hb hK hP 2 1 rfl rfl ck_23 d_V_fork_23 ?_
        obtain ⟨v24, hc24, hres⟩ := zo_b hres
        refine zw_v (ws' := zX q cM cH cW cL cB cS em v24 ++ pl) (va_runV (As := [.int j, .int (σ.2.2.2.1 k.toNatClampNeg)]) (rest := []) ⟨hx, hb, hml, hown, hts⟩ (c_V_moveHead l D [(cM, .object R_C), (cH, .int), (cW, .boolean), (cL, .int), (cB, .int), (cS, .object R_T)] _ q cM cH cW cL cB cS em pl cm tm hpl σ j (σ.2.2.2.1 k.toNatClampNeg) v24 hc24) (cwV 2 hts (zg_V k_279 k_281 k_3 k_29 g_V_moveHead) rfl rfl rfl ⟨rfl, hd_V_moveHead⟩ ⟨Nat.le_of_ble_eq_true rfl, Nat.le_of_ble_eq_true rfl⟩) ⟨zrw_b _, va_recv hK hP (q0 := 0) rfl rfl, zrw_w hP hD hK hN _⟩ rfl rfl hl.1 rfl (lv_room (Nat.le_of_ble_eq_true rfl)) d_V_fork_24 ⟨Nat.le_of_ble_eq_true rfl, Nat.le_of_ble_eq_true rfl⟩) hD hS hA (fun H locs hP hD hS => ?_)
        have hP : va_P D vwCl (zX q cM cH cW cL cB cS em v24 ++ pl) H := hP
        have hD : va_D A (zX q cM cH cW cL cB cS em v24 ++ pl) := hD
        refine lv_iconst (v := 1) hx hb d_V_fork_27 (by decide) ?_
        obtain rfl := Option.some.inj hres
        exact W.zret (v := 1) (ty := .boolean) hx hb hr rfl (fun t ht hW => ⟨⟨_, (), rfl, rfl, by rw [ht]; exact hP, va_K.moved hW.alike hK, hD⟩, hS.F ht⟩) hS.2.2 d_V_fork_28
      · exact absurd (zi_n ck_23 hres) (by simp)
    · have hres := zi_p c_11 hres
      refine lv_iconst (v := 0) hx hb d_V_fork_14 (by decide) ?_
      obtain rfl := Option.some.inj hres
      exact W.zret (v := 0) (ty := .boolean) hx hb hr rfl (fun t ht hW => ⟨⟨_, (), rfl, rfl, by rw [ht]; exact hP, va_K.moved hW.alike hK, hD⟩, hS.F ht⟩) hS.2.2 d_V_fork_15
abbrev qd_V_swap (D : va_G) (tys : List (ClassId × FieldType)) (q : Nat → Nat) (cM : ClassId) (cH : ClassId) (cW : ClassId) (cL : ClassId) (cB : ClassId) (cS : ClassId) (em : TreeV) (pl : va_W) (cm : Nat → Option ComV) (tm : Nat → Option TreeV) (σ : VSt) (k : Int32) (j : Int32) (i : Int32) (v : Int32 × VSt) (A : Nat → Prop) : Array Value → State → Outcome → State → Prop := va_Qi (fun (r : Int32) (_ : Unit) => r = v.1) (fun _ t => zwd D [(cM, .object R_C), (cH, .int), (cW, .boolean), (cL, .int), (cB, .int), (cS, .object R_T)] (A) (zX q cM cH cW cL cB cS em v.2 ++ pl) t) (A)

def f_V_swap (em : TreeV) (cm : Nat → Option ComV) (tm : Nat → Option TreeV) (σ : VSt) (k : Int32) (j : Int32) (i : Int32) : Option (Int32 × VSt) :=
  Option.bind (f_V_isBranch k) (fun v1 =>
    if v1 = 0 then
      some (0, σ)
    else
      if i = (-1) then
        if zin k 4 then
          if (σ.2.2.2.1 k.toNatClampNeg) = j then
            Option.bind (f_V_moveHead em cm tm σ k i) (fun v35 =>
              some (1, v35))
          else
            some (0, σ)
        else
          none
      else
        Option.bind (f_V_isCommit em cm tm σ i) (fun v14 =>
          if v14 = 0 then
            some (0, σ)
          else
            if zin k 4 then
              if (σ.2.2.2.1 k.toNatClampNeg) = j then
                Option.bind (f_V_moveHead em cm tm σ k i) (fun v35 =>
                  some (1, v35))
              else
                some (0, σ)
            else
              none))
set_option maxHeartbeats 4000000 in
set_option maxRecDepth 100000 in
theorem c_V_swap (l : Launch) (D : va_G) (tys : List (ClassId × FieldType)) (sz : Nat) (q : Nat → Nat) (cM : ClassId) (cH : ClassId) (cW : ClassId) (cL : ClassId) (cB : ClassId) (cS : ClassId) (em : TreeV) (pl : va_W) (cm : Nat → Option ComV) (tm : Nat → Option TreeV) (hpl : zpool pl cm tm) (σ : VSt) (k : Int32) (j : Int32) (i : Int32) (v : Int32 × VSt) (hres : f_V_swap em cm tm σ k j i = some v) : Met l y_V_swap w_V_swap ({ frames := 1, cells := 0, slots := 0, locals := 22 } : Room) (va_Pc ([.ref (q 0), .int k, .int j, .int i]) (zrw D [(cM, .object R_C), (cH, .int), (cW, .boolean), (cL, .int), (cB, .int), (cS, .object R_T)] sz (zX q cM cH cW cL cB cS em σ ++ pl))) (qd_V_swap D tys q cM cH cW cL cB cS em pl cm tm σ k j i v (va_A (zX q cM cH cW cL cB cS em σ ++ pl) sz)) 0 0 (va_A (zX q cM cH cW cL cB cS em σ ++ pl) sz) := by
  refine Met.ofW (cc := b_V_swap) (maxL := 4) (ret := (some .boolean)) (by decide) rfl ?_
  intro p e s m args below meth c s₁ B hml hv
  obtain ⟨rfl, hsz, hP, hK, hD0, hN⟩ := hv
  have hx := B.exec
  have hb := B.bytes
  have hr := B.returns
  have hts : ∀ w ∈ zt, w.before ([.ref (q 0), .int k, .int j, .int i].toArray) s = true := fun w h => atoms_spec (ws := w_V_swap) B.pre w (List.mem_cons_of_mem _ h)
  have hown : s.vm.findClass R_V = some m.cls := findClass_of_methodNamed B.named
  have hlocks := B.notSynchronized
  subst hsz
  have hD := hD0.self (sz := s.heap.size)
  generalize hAe : va_A (zX q cM cH cW cL cB cS em σ ++ pl) s.heap.size = A at hD ⊢
  have hA : ∀ q : Nat, s.heap.size ≤ q → A q := fun q h => by rw [← hAe]; exact Or.inr h
  have hS : va_S A s.heap s.heap [] := va_S.rf
  have hP : va_P D vwCl (zX q cM cH cW cL cB cS em σ ++ pl) s.heap := hP
  have hD : va_D A (zX q cM cH cW cL cB cS em σ ++ pl) := hD
  have hl := lv_entry ([.ref (q 0), .int k, .int j, .int i]) (n := 4) (Nat.le_of_ble_eq_true rfl)
  rw [lg_entry_eq]
  generalize (lg_sl ([.ref (q 0), .int k, .int j, .int i]) ++ List.replicate (4 - (lg_sl ([.ref (q 0), .int k, .int j, .int i])).length) Slot.unset).toArray = ls at hl ⊢
  have hl : lv_has ls 4 [(0, .ref (q 0)), (1, .int k), (2, .int j), (3, .int i)] := hl
  unfold f_V_swap at hres
  refine lv_iload_n hx hb d_V_swap_0 rfl (lv_at hl 1 rfl) ?_
  obtain ⟨v1, hc1, hres⟩ := zo_b hres
  refine vp_callSi (va_Run.run (va_runS (As := [.int k]) (rest := []) ⟨hx, hb, hml, hown, hts⟩ (c_V_isBranch l D [(cM, .object R_C), (cH, .int), (cW, .boolean), (cL, .int), (cB, .int), (cS, .object R_T)] k v1 hc1) (va_cwS 1 hts (zg_S k_171 k_172 k_29 g_V_isBranch) rfl rfl rfl hd_V_isBranch ⟨Nat.le_of_ble_eq_true rfl, Nat.le_of_ble_eq_true rfl⟩) ⟨zro_b _, zro_p va_Pnil hK hN _⟩ rfl rfl hl.1 rfl (lv_room (Nat.le_of_ble_eq_true rfl)) d_V_swap_1 ⟨Nat.zero_le _, Nat.zero_le _⟩)) (fun r_1 er_1 => ?_)
  have er_1 := er_1.symm
  subst er_1
  refine lv_if_eq (tgt := 30) hx hb d_V_swap_4 (by decide) (fun c_4 => ?_) (fun c_4 => ?_)
  · have hres := zi_p c_4 hres
    refine lv_iconst (v := 0) hx hb d_V_swap_30 (by decide) ?_
    obtain rfl := Option.some.inj hres
    exact W.zret (v := 0) (ty := .boolean) hx hb hr rfl (fun t ht hW => ⟨⟨_, (), rfl, rfl, by rw [ht]; exact hP, va_K.moved hW.alike hK, hD⟩, hS.F ht⟩) hS.2.2 d_V_swap_31
  · have hres := zi_n c_4 hres
    refine lv_iload_n hx hb d_V_swap_7 rfl (lv_at hl 3 rfl) ?_
    refine lv_iconst (v := (-1)) hx hb d_V_swap_8 (by decide) ?_
    refine lv_icmp_eq (tgt := 20) hx hb d_V_swap_9 (by decide) (fun c_9 => ?_) (fun c_9 => ?_)
    · have hres := zi_p c_9 hres
      refine lv_aload_n hx hb d_V_swap_20 rfl (lv_at hl 0 rfl) ?_
      refine va_get (D := D) (ci := 3) (v := .ref (q 2)) (C := R_V) (T := T_V) (N := 10) hx hb hts in_V hown hK hP (0) rfl rfl 2 (by decide) (hts _ k_138) (fun _ h9 => h9) rfl d_V_swap_21 ?_
      refine lv_iload_n hx hb d_V_swap_24 rfl (lv_at hl 1 rfl) ?_
      by_cases ck_25 : zin k 4
      · have hres := zi_p ck_25 hres
        refine va_iald hx hb hK hP 2 1 rfl rfl ck_25 d_V_swap_25 ?_
        refine lv_iload_n hx hb d_V_swap_26 rfl (lv_at hl 2 rfl) ?_
        refine lv_icmp_eq (tgt := 32) hx hb d_V_swap_27 (by decide) (fun c_27 => ?_) (fun c_27 => ?_)
        · have hres := zi_p c_27 hres
          refine lv_aload_n hx hb d_V_swap_32 rfl (lv_at hl 0 rfl) ?_
          refine lv_iload_n hx hb d_V_swap_33 rfl (lv_at hl 1 rfl) ?_
          refine lv_iload_n hx hb d_V_swap_34 rfl (lv_at hl 3 rfl) ?_
          obtain ⟨v35, hc35, hres⟩ := zo_b hres
          refine zw_v (ws' := zX q cM cH cW cL cB cS em v35 ++ pl) (va_runV (As := [.int k, .int i]) (rest := []) ⟨hx, hb, hml, hown, hts⟩ (c_V_moveHead l D [(cM, .object R_C), (cH, .int), (cW, .boolean), (cL, .int), (cB, .int), (cS, .object R_T)] _ q cM cH cW cL cB cS em pl cm tm hpl σ k i v35 hc35) (cwV 2 hts (zg_V k_279 k_281 k_3 k_29 g_V_moveHead) rfl rfl rfl ⟨rfl, hd_V_moveHead⟩ ⟨Nat.le_of_ble_eq_true rfl, Nat.le_of_ble_eq_true rfl⟩) ⟨zrw_b _, va_recv hK hP (q0 := 0) rfl rfl, zrw_w hP hD hK hN _⟩ rfl rfl hl.1 rfl (lv_room (Nat.le_of_ble_eq_true rfl)) d_V_swap_35 ⟨Nat.le_of_ble_eq_true rfl, Nat.le_of_ble_eq_true rfl⟩) hD hS hA (fun H locs hP hD hS => ?_)
          have hP : va_P D vwCl (zX q cM cH cW cL cB cS em v35 ++ pl) H := hP
          have hD : va_D A (zX q cM cH cW cL cB cS em v35 ++ pl) := hD
          refine lv_iconst (v := 1) hx hb d_V_swap_38 (by decide) ?_
          obtain rfl := Option.some.inj hres
          exact W.zret (v := 1) (ty := .boolean) hx hb hr rfl (fun t ht hW => ⟨⟨_, (), rfl, rfl, by rw [ht]; exact hP, va_K.moved hW.alike hK, hD⟩, hS.F ht⟩) hS.2.2 d_V_swap_39
        · have hres := zi_n c_27 hres
          refine lv_iconst (v := 0) hx hb d_V_swap_30 (by decide) ?_
          obtain rfl := Option.some.inj hres
          exact W.zret (v := 0) (ty := .boolean) hx hb hr rfl (fun t ht hW => ⟨⟨_, (), rfl, rfl, by rw [ht]; exact hP, va_K.moved hW.alike hK, hD⟩, hS.F ht⟩) hS.2.2 d_V_swap_31
      · exact absurd (zi_n ck_25 hres) (by simp)
    · have hres := zi_n c_9 hres
      refine lv_aload_n hx hb d_V_swap_12 rfl (lv_at hl 0 rfl) ?_
      refine lv_iload_n hx hb d_V_swap_13 rfl (lv_at hl 3 rfl) ?_
      obtain ⟨v14, hc14, hres⟩ := zo_b hres
      refine vp_callSi (va_Run.run (va_runV (As := [.int i]) (rest := []) ⟨hx, hb, hml, hown, hts⟩ (c_V_isCommit l D [(cM, .object R_C), (cH, .int), (cW, .boolean), (cL, .int), (cB, .int), (cS, .object R_T)] q cM cH cW cL cB cS em pl cm tm hpl σ i v14 hc14) (cwV 1 hts (zg_V k_183 k_185 k_1 k_29 g_V_isCommit) rfl rfl rfl ⟨rfl, hd_V_isCommit⟩ ⟨Nat.le_of_ble_eq_true rfl, Nat.le_of_ble_eq_true rfl⟩) ⟨zro_b _, va_recv hK hP (q0 := 0) rfl rfl, zro_p hP hK hN _⟩ rfl rfl hl.1 rfl (lv_room (Nat.le_of_ble_eq_true rfl)) d_V_swap_14 ⟨Nat.zero_le _, Nat.zero_le _⟩)) (fun r_14 er_14 => ?_)
      have er_14 := er_14.symm
      subst er_14
      refine lv_if_eq (tgt := 30) hx hb d_V_swap_17 (by decide) (fun c_17 => ?_) (fun c_17 => ?_)
      · have hres := zi_p c_17 hres
        refine lv_iconst (v := 0) hx hb d_V_swap_30 (by decide) ?_
        obtain rfl := Option.some.inj hres
        exact W.zret (v := 0) (ty := .boolean) hx hb hr rfl (fun t ht hW => ⟨⟨_, (), rfl, rfl, by rw [ht]; exact hP, va_K.moved hW.alike hK, hD⟩, hS.F ht⟩) hS.2.2 d_V_swap_31
      · have hres := zi_n c_17 hres
        refine lv_aload_n hx hb d_V_swap_20 rfl (lv_at hl 0 rfl) ?_
        refine va_get (D := D) (ci := 3) (v := .ref (q 2)) (C := R_V) (T := T_V) (N := 10) hx hb hts in_V hown hK hP (0) rfl rfl 2 (by decide) (hts _ k_138) (fun _ h9 => h9) rfl d_V_swap_21 ?_
        refine lv_iload_n hx hb d_V_swap_24 rfl (lv_at hl 1 rfl) ?_
        by_cases ck_25 : zin k 4
        · have hres := zi_p ck_25 hres
          refine va_iald hx hb hK hP 2 1 rfl rfl ck_25 d_V_swap_25 ?_
          refine lv_iload_n hx hb d_V_swap_26 rfl (lv_at hl 2 rfl) ?_
          refine lv_icmp_eq (tgt := 32) hx hb d_V_swap_27 (by decide) (fun c_27 => ?_) (fun c_27 => ?_)
          · have hres := zi_p c_27 hres
            refine lv_aload_n hx hb d_V_swap_32 rfl (lv_at hl 0 rfl) ?_
            refine lv_iload_n hx hb d_V_swap_33 rfl (lv_at hl 1 rfl) ?_
            refine lv_iload_n hx hb d_V_swap_34 rfl (lv_at hl 3 rfl) ?_
            obtain ⟨v35, hc35, hres⟩ := zo_b hres
            refine zw_v (ws' := zX q cM cH cW cL cB cS em v35 ++ pl) (va_runV (As := [.int k, .int i]) (rest := []) ⟨hx, hb, hml, hown, hts⟩ (c_V_moveHead l D [(cM, .object R_C), (cH, .int), (cW, .boolean), (cL, .int), (cB, .int), (cS, .object R_T)] _ q cM cH cW cL cB cS em pl cm tm hpl σ k i v35 hc35) (cwV 2 hts (zg_V k_279 k_281 k_3 k_29 g_V_moveHead) rfl rfl rfl ⟨rfl, hd_V_moveHead⟩ ⟨Nat.le_of_ble_eq_true rfl, Nat.le_of_ble_eq_true rfl⟩) ⟨zrw_b _, va_recv hK hP (q0 := 0) rfl rfl, zrw_w hP hD hK hN _⟩ rfl rfl hl.1 rfl (lv_room (Nat.le_of_ble_eq_true rfl)) d_V_swap_35 ⟨Nat.le_of_ble_eq_true rfl, Nat.le_of_ble_eq_true rfl⟩) hD hS hA (fun H locs hP hD hS => ?_)
            have hP : va_P D vwCl (zX q cM cH cW cL cB cS em v35 ++ pl) H := hP
            have hD : va_D A (zX q cM cH cW cL cB cS em v35 ++ pl) := hD
            refine lv_iconst (v := 1) hx hb d_V_swap_38 (by decide) ?_
            obtain rfl := Option.some.inj hres
            exact W.zret (v := 1) (ty := .boolean) hx hb hr rfl (fun t ht hW => ⟨⟨_, (), rfl, rfl, by rw [ht]; exact hP, va_K.moved hW.alike hK, hD⟩, hS.F ht⟩) hS.2.2 d_V_swap_39
          · have hres := zi_n c_27 hres
            refine lv_iconst (v := 0) hx hb d_V_swap_30 (by decide) ?_
            obtain rfl := Option.some.inj hres
            exact W.zret (v := 0) (ty := .boolean) hx hb hr rfl (fun t ht hW => ⟨⟨_, (), rfl, rfl, by rw [ht]; exact hP, va_K.moved hW.alike hK, hD⟩, hS.F ht⟩) hS.2.2 d_V_swap_31
        · exact absurd (zi_n ck_25 hres) (by simp)

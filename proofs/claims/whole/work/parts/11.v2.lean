abbrev qd_V_layBase_4 (D : va_G) (tys : List (ClassId × FieldType)) (q : Nat → Nat) (cM : ClassId) (cH : ClassId) (cW : ClassId) (cL : ClassId) (cB : ClassId) (cS : ClassId) (em : TreeV) (pl : va_W) (cm : Nat → Option ComV) (tm : Nat → Option TreeV) (σ : VSt) (h0 : Nat) (h1 : Nat) (v : Int32 × VSt) (A : Nat → Prop) : Array Value → State → Outcome → State → Prop := va_Qi (fun (r : Int32) (_ : Unit) => r = v.1) (fun _ t => zwd D [(cM, .object R_C), (cH, .int), (cW, .boolean), (cL, .int), (cB, .int), (cS, .object R_T)] (A) (zX q cM cH cW cL cB cS em v.2 ++ pl) t) (A)

def f_V_layBase_4 (em : TreeV) (cm : Nat → Option ComV) (tm : Nat → Option TreeV) (σ : VSt) (h0 : Nat) (h1 : Nat) : Option (Int32 × VSt) :=
  Option.bind (f_V_meetsOf em cm tm σ h0 h1) (fun v11 =>
    Option.bind (f_V_nextIn v11 0) (fun v20 =>
      Option.bind (f_V_commitAt em cm tm σ v20) (fun v23 =>
        zo_m (v23) (
          Option.bind (f_T_become σ.2.2.2.2.2.2.2.2.2.2.2.2 em) (fun v47 =>
            some (0, (σ.1, σ.2.1, σ.2.2.1, σ.2.2.2.1, σ.2.2.2.2.1, σ.2.2.2.2.2.1, σ.2.2.2.2.2.2.1, σ.2.2.2.2.2.2.2.1, σ.2.2.2.2.2.2.2.2.1, σ.2.2.2.2.2.2.2.2.2.1, σ.2.2.2.2.2.2.2.2.2.2.1, σ.2.2.2.2.2.2.2.2.2.2.2.1, v47)))) (fun y_23 =>
          Option.bind (cm y_23) (fun o_44 =>
            Option.bind (tm o_44.2.2.2.2.1) (fun o_47 =>
              Option.bind (f_T_become σ.2.2.2.2.2.2.2.2.2.2.2.2 o_47) (fun v47 =>
                some (0, (σ.1, σ.2.1, σ.2.2.1, σ.2.2.2.1, σ.2.2.2.2.1, σ.2.2.2.2.2.1, σ.2.2.2.2.2.2.1, σ.2.2.2.2.2.2.2.1, σ.2.2.2.2.2.2.2.2.1, σ.2.2.2.2.2.2.2.2.2.1, σ.2.2.2.2.2.2.2.2.2.2.1, σ.2.2.2.2.2.2.2.2.2.2.2.1, v47)))))))))
set_option maxHeartbeats 4000000 in
set_option maxRecDepth 100000 in
theorem c_V_layBase_4 (l : Launch) (D : va_G) (tys : List (ClassId × FieldType)) (sz : Nat) (q : Nat → Nat) (cM : ClassId) (cH : ClassId) (cW : ClassId) (cL : ClassId) (cB : ClassId) (cS : ClassId) (em : TreeV) (pl : va_W) (cm : Nat → Option ComV) (tm : Nat → Option TreeV) (hpl : zpool pl cm tm) (σ : VSt) (h0 : Nat) (h1 : Nat) (v : Int32 × VSt) (hres : f_V_layBase_4 em cm tm σ h0 h1 = some v) : Met l y_V_layBase w_V_layBase ({ frames := 2, cells := 0, slots := 0, locals := 49 } : Room) (va_Pc ([.ref (q 0), .ref h0, .ref h1, .int 4]) (zrw D [(cM, .object R_C), (cH, .int), (cW, .boolean), (cL, .int), (cB, .int), (cS, .object R_T)] sz (zX q cM cH cW cL cB cS em σ ++ pl))) (qd_V_layBase_4 D tys q cM cH cW cL cB cS em pl cm tm σ h0 h1 v (va_A (zX q cM cH cW cL cB cS em σ ++ pl) sz)) 0 0 (va_A (zX q cM cH cW cL cB cS em σ ++ pl) sz) := by
  refine Met.ofW (cc := b_V_layBase) (maxL := 10) (ret := (some .int)) (by decide) rfl ?_
  intro p e s m args below meth c s₁ B hml hv
  obtain ⟨rfl, hsz, hP, hK, hD0, hN⟩ := hv
  have hx := B.exec
  have hb := B.bytes
  have hr := B.returns
  have hts : ∀ w ∈ zt, w.before ([.ref (q 0), .ref h0, .ref h1, .int 4].toArray) s = true := fun w h => atoms_spec (ws := w_V_layBase) B.pre w (List.mem_cons_of_mem _ h)
  have hown : s.vm.findClass R_V = some m.cls := findClass_of_methodNamed B.named
  have hlocks := B.notSynchronized
  subst hsz
  have hD := hD0.self (sz := s.heap.size)
  generalize hAe : va_A (zX q cM cH cW cL cB cS em σ ++ pl) s.heap.size = A at hD ⊢
  have hA : ∀ q : Nat, s.heap.size ≤ q → A q := fun q h => by rw [← hAe]; exact Or.inr h
  have hS : va_S A s.heap s.heap [] := va_S.rf
  have hP : va_P D vwCl (zX q cM cH cW cL cB cS em σ ++ pl) s.heap := hP
  have hD : va_D A (zX q cM cH cW cL cB cS em σ ++ pl) := hD
  have hl := lv_entry ([.ref (q 0), .ref h0, .ref h1, .int 4]) (n := 10) (Nat.le_of_ble_eq_true rfl)
  rw [lg_entry_eq]
  generalize (lg_sl ([.ref (q 0), .ref h0, .ref h1, .int 4]) ++ List.replicate (10 - (lg_sl ([.ref (q 0), .ref h0, .ref h1, .int 4])).length) Slot.unset).toArray = ls at hl ⊢
  have hl : lv_has ls 10 [(0, .ref (q 0)), (1, .ref h0), (2, .ref h1), (3, .int 4)] := hl
  unfold f_V_layBase_4 at hres
  refine lv_aload_n hx hb d_V_layBase_0 rfl (lv_at hl 0 rfl) ?_
  refine va_get (D := D) (ci := 3) (v := .ref (q 9)) (C := R_V) (T := T_V) (N := 10) hx hb hts in_V hown hK hP (0) rfl rfl 9 (by decide) (hts _ k_145) (fun _ h9 => h9) rfl d_V_layBase_1 ?_
  refine lv_iload_n hx hb d_V_layBase_4 rfl (lv_at hl 3 rfl) ?_
  refine va_aldq hx hb hK hP 9 5 rfl rfl (show zin 4 5 by decide) d_V_layBase_5 ?_
  refine W.eq (g2 := F0 m 6 ls [.ref (q 14)]) rfl ?_
  refine lv_astore (lv' := [(4, .ref (q 14)), (0, .ref (q 0)), (1, .ref h0), (2, .ref h1), (3, .int 4)]) hx hb d_V_layBase_6 hl (by decide) rfl (fun ls hl => ?_)
  refine lv_aload_n hx hb d_V_layBase_8 rfl (lv_at hl 1 rfl) ?_
  refine lv_aload_n hx hb d_V_layBase_9 rfl (lv_at hl 2 rfl) ?_
  refine lv_aload_n hx hb d_V_layBase_10 rfl (lv_at hl 3 rfl) ?_
  obtain ⟨v11, hc11, hres⟩ := zo_b hres
  refine vp_callSl (va_Run.run (va_runV (As := [.ref h0, .ref h1]) (rest := []) ⟨hx, hb, hml, hown, hts⟩ (c_V_meetsOf l D [(cM, .object R_C), (cH, .int), (cW, .boolean), (cL, .int), (cB, .int), (cS, .object R_T)] q cM cH cW cL cB cS em pl cm tm hpl σ h0 h1 v11 hc11) (cwV 2 hts (zg_V k_308 k_310 k_6 k_29 g_V_meetsOf) rfl rfl rfl ⟨rfl, hd_V_meetsOf⟩ ⟨Nat.le_of_ble_eq_true rfl, Nat.le_of_ble_eq_true rfl⟩) ⟨zro_b _, va_recv hK hP (q0 := 0) rfl rfl, zro_p hP hK hN _⟩ rfl rfl hl.1 rfl (lv_room (Nat.le_of_ble_eq_true rfl)) d_V_layBase_11 ⟨Nat.zero_le _, Nat.zero_le _⟩)) (fun r_11 er_11 => ?_)
  have er_11 := er_11.symm
  subst er_11
  refine lv_lstore (lv' := [(5, .long v11), (4, .ref (q 14)), (0, .ref (q 0)), (1, .ref h0), (2, .ref h1), (3, .int 4)]) hx hb d_V_layBase_14 hl (by decide) rfl (fun ls hl => ?_)
  refine lv_aload_n hx hb d_V_layBase_16 rfl (lv_at hl 2 rfl) ?_
  refine lv_lload hx hb d_V_layBase_17 (lv_at hl 0 rfl) ?_
  refine lv_iconst (v := 0) hx hb d_V_layBase_19 (by decide) ?_
  obtain ⟨v20, hc20, hres⟩ := zo_b hres
  refine vp_callSi (va_Run.run (va_runS (As := [.long v11, .int 0]) (rest := [.ref (q 0)]) ⟨hx, hb, hml, hown, hts⟩ (c_V_nextIn l D [(cM, .object R_C), (cH, .int), (cW, .boolean), (cL, .int), (cB, .int), (cS, .object R_T)] v11 0 v20 hc20) (va_cwS 2 hts (zg_S k_319 k_320 k_29 g_V_nextIn) rfl rfl rfl hd_V_nextIn ⟨Nat.le_of_ble_eq_true rfl, Nat.le_of_ble_eq_true rfl⟩) ⟨zro_b _, zro_p va_Pnil hK hN _⟩ rfl rfl hl.1 rfl (lv_room (Nat.le_of_ble_eq_true rfl)) d_V_layBase_20 ⟨Nat.zero_le _, Nat.zero_le _⟩)) (fun r_20 er_20 => ?_)
  have er_20 := er_20.symm
  subst er_20
  obtain ⟨v23, hc23, hres⟩ := zo_b hres
  refine va_csq (va_Run.run (va_runV (As := [.int v20]) (rest := []) ⟨hx, hb, hml, hown, hts⟩ (c_V_commitAt l D [(cM, .object R_C), (cH, .int), (cW, .boolean), (cL, .int), (cB, .int), (cS, .object R_T)] q cM cH cW cL cB cS em pl cm tm hpl σ v20 v23 hc23) (cwV 1 hts (zg_V k_179 k_181 k_0 k_29 g_V_commitAt) rfl rfl rfl ⟨rfl, hd_V_commitAt⟩ ⟨Nat.le_of_ble_eq_true rfl, Nat.le_of_ble_eq_true rfl⟩) ⟨zro_b _, va_recv hK hP (q0 := 0) rfl rfl, zro_p hP hK hN _⟩ rfl rfl hl.1 rfl (lv_room (Nat.le_of_ble_eq_true rfl)) d_V_layBase_23 ⟨Nat.zero_le _, Nat.zero_le _⟩)) (fun r_23 er_23 => ?_)
  have er_23 := er_23.symm
  subst er_23
  rcases hq_23 : v23 with _ | y_23
  · have hres := zo_n hq_23 hres
    refine lv_astoreN (lv' := [(7, .null), (5, .long v11), (4, .ref (q 14)), (0, .ref (q 0)), (1, .ref h0), (2, .ref h1), (3, .int 4)]) hx hb d_V_layBase_26 hl (by decide) rfl (fun ls hl => ?_)
    refine lv_aload hx hb d_V_layBase_28 (lv_at hl 2 rfl) ?_
    refine lv_aloadN hx hb d_V_layBase_30 (lv_at hl 0 rfl) ?_
    refine lv_ifnonnullN hx hb d_V_layBase_32 ?_
    refine lv_aload_n hx hb d_V_layBase_35 rfl (lv_at hl 3 rfl) ?_
    refine va_get (D := D) (ci := 3) (v := .ref (q 5)) (C := R_V) (T := T_V) (N := 10) hx hb hts in_V hown hK hP (0) rfl rfl 6 (by decide) (hts _ k_142) (fun _ h9 => h9) rfl d_V_layBase_36 ?_
    refine lv_goto (tgt := 47) hx hb d_V_layBase_39 (by decide) ?_
    obtain ⟨v47, hc47, hres⟩ := zo_b hres
    have hWc : ([14] : List Nat).map (fun i => (zX q cM cH cW cL cB cS em σ ++ pl)[i]?) = ([(q 14, zcT σ.2.2.2.2.2.2.2.2.2.2.2.2)] : va_W).map some := (zcons rfl znil)
    have hRc : ([5] : List Nat).map (fun i => (zX q cM cH cW cL cB cS em σ ++ pl)[i]?) = ([(q 5, zcT em)] : va_W).map some := (zcons rfl znil)
    refine zd_v (wcw := [(q 14, zcT σ.2.2.2.2.2.2.2.2.2.2.2.2)]) (wro := [(q 5, zcT em)]) (w1w := [(q 14, zcT v47)]) (va_runV (As := [.ref (q 5)]) (rest := []) ⟨hx, hb, hml, hown, hts⟩ (c_T_become l D [(cM, .object R_C), (cH, .int), (cW, .boolean), (cL, .int), (cB, .int), (cS, .object R_T)] _ (q 14) (q 5) σ.2.2.2.2.2.2.2.2.2.2.2.2 em v47 hc47) (cwV 1 hts (zg_V k_208 k_209 k_210 k_30 g_T_become) rfl rfl rfl ⟨rfl, hd_T_become⟩ ⟨Nat.le_of_ble_eq_true rfl, Nat.le_of_ble_eq_true rfl⟩) ⟨zrw_b _, va_recv hK hP (q0 := 14) rfl rfl, zrw_p hP hD hK hN [14] [5] hWc hRc (by decide) _⟩ rfl rfl hl.1 rfl (lv_room (Nat.le_of_ble_eq_true rfl)) d_V_layBase_47 ⟨Nat.zero_le _, Nat.zero_le _⟩) hP hD hS hA [14] [5] hWc hRc rfl (fun H locs hP hD hS => ?_)
    have hP : va_P D vwCl ([(q 0, .inr (3, [.ref (q 1), .int σ.1, .ref (q 2), .ref (q 3), .ref (q 4), .int σ.2.1, .ref (q 5), .ref (q 7), .ref (q 6), .ref (q 9)])), (q 1, .inl (cM, 60, .inr (.inr (.inr (.inr σ.2.2.1))))), (q 2, .inl (cH, 4, .inl σ.2.2.2.1)), (q 3, .inl (cW, 4, .inl σ.2.2.2.2.1)), (q 4, .inl (cL, 100, .inl σ.2.2.2.2.2.1)), (q 5, zcT em), (q 6, zcT σ.2.2.2.2.2.2.1), (q 7, .inr (2, [.ref (q 8)])), (q 8, .inl (cB, 16, .inl σ.2.2.2.2.2.2.2.1)), (q 9, .inl (cS, 5, .inr (.inr (.inr (.inr (zbs q)))))), (q 10, zcT σ.2.2.2.2.2.2.2.2.1), (q 11, zcT σ.2.2.2.2.2.2.2.2.2.1), (q 12, zcT σ.2.2.2.2.2.2.2.2.2.2.1), (q 13, zcT σ.2.2.2.2.2.2.2.2.2.2.2.1), (q 14, zcT v47)] ++ pl) H := hP
    have hD : va_D A ([(q 0, .inr (3, [.ref (q 1), .int σ.1, .ref (q 2), .ref (q 3), .ref (q 4), .int σ.2.1, .ref (q 5), .ref (q 7), .ref (q 6), .ref (q 9)])), (q 1, .inl (cM, 60, .inr (.inr (.inr (.inr σ.2.2.1))))), (q 2, .inl (cH, 4, .inl σ.2.2.2.1)), (q 3, .inl (cW, 4, .inl σ.2.2.2.2.1)), (q 4, .inl (cL, 100, .inl σ.2.2.2.2.2.1)), (q 5, zcT em), (q 6, zcT σ.2.2.2.2.2.2.1), (q 7, .inr (2, [.ref (q 8)])), (q 8, .inl (cB, 16, .inl σ.2.2.2.2.2.2.2.1)), (q 9, .inl (cS, 5, .inr (.inr (.inr (.inr (zbs q)))))), (q 10, zcT σ.2.2.2.2.2.2.2.2.1), (q 11, zcT σ.2.2.2.2.2.2.2.2.2.1), (q 12, zcT σ.2.2.2.2.2.2.2.2.2.2.1), (q 13, zcT σ.2.2.2.2.2.2.2.2.2.2.2.1), (q 14, zcT v47)] ++ pl) := hD
    refine lv_aloadN hx hb d_V_layBase_50 (lv_at hl 0 rfl) ?_
    refine lv_ifnullN (tgt := 60) hx hb d_V_layBase_52 (by decide) ?_
    refine lv_iconst (v := 0) hx hb d_V_layBase_60 (by decide) ?_
    obtain rfl := Option.some.inj hres
    exact W.iret (v := 0) hx hb hr (fun t ht hW => ⟨⟨_, (), rfl, rfl, by rw [ht]; exact hP, va_K.moved hW.alike hK, hD⟩, hS.F ht⟩) hS.2.2 d_V_layBase_61
  · have hres := zo_s hq_23 hres
    refine lv_astore (lv' := [(7, .ref y_23), (5, .long v11), (4, .ref (q 14)), (0, .ref (q 0)), (1, .ref h0), (2, .ref h1), (3, .int 4)]) hx hb d_V_layBase_26 hl (by decide) rfl (fun ls hl => ?_)
    refine lv_aload hx hb d_V_layBase_28 (lv_at hl 2 rfl) ?_
    refine lv_aload hx hb d_V_layBase_30 (lv_at hl 0 rfl) ?_
    refine lv_ifnonnull (tgt := 42) hx hb d_V_layBase_32 (by decide) ?_
    refine lv_aload hx hb d_V_layBase_42 (lv_at hl 0 rfl) ?_
    obtain ⟨o_44, ho_44, hres⟩ := zo_b hres
    obtain ⟨ko_44, hko_44⟩ := hpl.1 _ _ ho_44
    refine va_get (D := D) (ci := 1) (v := .ref o_44.2.2.2.2.1) (C := R_C) (T := T_C) (N := 7) hx hb hts in_C hown hK hP (15 + ko_44) (zpl_get hko_44) rfl 4 (by decide) (hts _ k_259) (fun _ h9 => h9) rfl d_V_layBase_44 ?_
    obtain ⟨o_47, ho_47, hres⟩ := zo_b hres
    obtain ⟨ko_47, hko_47⟩ := hpl.2 _ _ ho_47
    obtain ⟨v47, hc47, hres⟩ := zo_b hres
    have hWc : ([14] : List Nat).map (fun i => (zX q cM cH cW cL cB cS em σ ++ pl)[i]?) = ([(q 14, zcT σ.2.2.2.2.2.2.2.2.2.2.2.2)] : va_W).map some := (zcons rfl znil)
    have hRc : ([15 + ko_47] : List Nat).map (fun i => (zX q cM cH cW cL cB cS em σ ++ pl)[i]?) = ([(o_44.2.2.2.2.1, zcT o_47)] : va_W).map some := (zcons (zpl_get hko_47) znil)
    refine zd_v (wcw := [(q 14, zcT σ.2.2.2.2.2.2.2.2.2.2.2.2)]) (wro := [(o_44.2.2.2.2.1, zcT o_47)]) (w1w := [(q 14, zcT v47)]) (va_runV (As := [.ref o_44.2.2.2.2.1]) (rest := []) ⟨hx, hb, hml, hown, hts⟩ (c_T_become l D [(cM, .object R_C), (cH, .int), (cW, .boolean), (cL, .int), (cB, .int), (cS, .object R_T)] _ (q 14) o_44.2.2.2.2.1 σ.2.2.2.2.2.2.2.2.2.2.2.2 o_47 v47 hc47) (cwV 1 hts (zg_V k_208 k_209 k_210 k_30 g_T_become) rfl rfl rfl ⟨rfl, hd_T_become⟩ ⟨Nat.le_of_ble_eq_true rfl, Nat.le_of_ble_eq_true rfl⟩) ⟨zrw_b _, va_recv hK hP (q0 := 14) rfl rfl, zrw_p hP hD hK hN [14] [15 + ko_47] hWc hRc (by simp [va_nd] <;> omega) _⟩ rfl rfl hl.1 rfl (lv_room (Nat.le_of_ble_eq_true rfl)) d_V_layBase_47 ⟨Nat.zero_le _, Nat.zero_le _⟩) hP hD hS hA [14] [15 + ko_47] hWc hRc rfl (fun H locs hP hD hS => ?_)
    have hP : va_P D vwCl ([(q 0, .inr (3, [.ref (q 1), .int σ.1, .ref (q 2), .ref (q 3), .ref (q 4), .int σ.2.1, .ref (q 5), .ref (q 7), .ref (q 6), .ref (q 9)])), (q 1, .inl (cM, 60, .inr (.inr (.inr (.inr σ.2.2.1))))), (q 2, .inl (cH, 4, .inl σ.2.2.2.1)), (q 3, .inl (cW, 4, .inl σ.2.2.2.2.1)), (q 4, .inl (cL, 100, .inl σ.2.2.2.2.2.1)), (q 5, zcT em), (q 6, zcT σ.2.2.2.2.2.2.1), (q 7, .inr (2, [.ref (q 8)])), (q 8, .inl (cB, 16, .inl σ.2.2.2.2.2.2.2.1)), (q 9, .inl (cS, 5, .inr (.inr (.inr (.inr (zbs q)))))), (q 10, zcT σ.2.2.2.2.2.2.2.2.1), (q 11, zcT σ.2.2.2.2.2.2.2.2.2.1), (q 12, zcT σ.2.2.2.2.2.2.2.2.2.2.1), (q 13, zcT σ.2.2.2.2.2.2.2.2.2.2.2.1), (q 14, zcT v47)] ++ pl) H := hP
    have hD : va_D A ([(q 0, .inr (3, [.ref (q 1), .int σ.1, .ref (q 2), .ref (q 3), .ref (q 4), .int σ.2.1, .ref (q 5), .ref (q 7), .ref (q 6), .ref (q 9)])), (q 1, .inl (cM, 60, .inr (.inr (.inr (.inr σ.2.2.1))))), (q 2, .inl (cH, 4, .inl σ.2.2.2.1)), (q 3, .inl (cW, 4, .inl σ.2.2.2.2.1)), (q 4, .inl (cL, 100, .inl σ.2.2.2.2.2.1)), (q 5, zcT em), (q 6, zcT σ.2.2.2.2.2.2.1), (q 7, .inr (2, [.ref (q 8)])), (q 8, .inl (cB, 16, .inl σ.2.2.2.2.2.2.2.1)), (q 9, .inl (cS, 5, .inr (.inr (.inr (.inr (zbs q)))))), (q 10, zcT σ.2.2.2.2.2.2.2.2.1), (q 11, zcT σ.2.2.2.2.2.2.2.2.2.1), (q 12, zcT σ.2.2.2.2.2.2.2.2.2.2.1), (q 13, zcT σ.2.2.2.2.2.2.2.2.2.2.2.1), (q 14, zcT v47)] ++ pl) := hD
    refine lv_aload hx hb d_V_layBase_50 (lv_at hl 0 rfl) ?_
    refine lv_ifnull hx hb d_V_layBase_52 ?_
    refine lv_iload_n hx hb d_V_layBase_55 rfl (lv_at hl 6 rfl) ?_
    refine lv_iconst (v := 4) hx hb d_V_layBase_56 (by decide) ?_
    refine lv_icmp_lt (tgt := 62) hx hb d_V_layBase_57 (by decide) (fun c => absurd c (by decide)) (fun _ => ?_)
    refine lv_iconst (v := 0) hx hb d_V_layBase_60 (by decide) ?_
    obtain rfl := Option.some.inj hres
    exact W.iret (v := 0) hx hb hr (fun t ht hW => ⟨⟨_, (), rfl, rfl, by rw [ht]; exact hP, va_K.moved hW.alike hK, hD⟩, hS.F ht⟩) hS.2.2 d_V_layBase_61
abbrev qd_V_layBase_3 (D : va_G) (tys : List (ClassId × FieldType)) (q : Nat → Nat) (cM : ClassId) (cH : ClassId) (cW : ClassId) (cL : ClassId) (cB : ClassId) (cS : ClassId) (em : TreeV) (pl : va_W) (cm : Nat → Option ComV) (tm : Nat → Option TreeV) (σ : VSt) (h0 : Nat) (h1 : Nat) (v : Int32 × VSt) (A : Nat → Prop) : Array Value → State → Outcome → State → Prop := va_Qi (fun (r : Int32) (_ : Unit) => r = v.1) (fun _ t => zwd D [(cM, .object R_C), (cH, .int), (cW, .boolean), (cL, .int), (cB, .int), (cS, .object R_T)] (A) (zX q cM cH cW cL cB cS em v.2 ++ pl) t) (A)

def L_V_layBase_3_71 (em : TreeV) (cm : Nat → Option ComV) (tm : Nat → Option TreeV) (v11 : Int64) (y_23 : Nat) : Nat → Int32 → VSt → Option ((Int32 × VSt) ⊕ (Int32 × VSt))
  | 0, _, _ => none
  | n + 1, x71_8, g71 =>
    if g71.1 ≤ x71_8 then
      some (Sum.inr (x71_8, g71))
    else
      Option.bind (f_V_isIn v11 x71_8) (fun v84 =>
        if v84 = 0 then
          L_V_layBase_3_71 em cm tm v11 y_23 n (x71_8 + 1) g71
        else
          if zin x71_8 60 then
            zo_m ((g71.2.2.1 x71_8.toNatClampNeg)) (
              none) (fun y_102 =>
              Option.bind (f_V_layBase_4 em cm tm g71 y_23 y_102) (fun v106 =>
                if v106.1 = 0 then
                  if zin x71_8 60 then
                    zo_m ((v106.2.2.2.1 x71_8.toNatClampNeg)) (
                      none) (fun y_136 =>
                      Option.bind (cm y_136) (fun o_137 =>
                        Option.bind (tm o_137.2.2.2.2.1) (fun o_140 =>
                          Option.bind (f_M_mergeInto v106.2.2.2.2.2.2.2.2.2.2.2.2.1 v106.2.2.2.2.2.2.2.2.1 v106.2.2.2.2.2.2.2.2.2.2.2.2.2 o_140) (fun v140 =>
                            if v140.1 = 0 then
                              L_V_layBase_3_71 em cm tm v11 y_23 n (x71_8 + 1) (v106.2.1, v106.2.2.1, v106.2.2.2.1, v106.2.2.2.2.1, v106.2.2.2.2.2.1, v106.2.2.2.2.2.2.1, v106.2.2.2.2.2.2.2.1, v140.2.2, v106.2.2.2.2.2.2.2.2.2.1, v106.2.2.2.2.2.2.2.2.2.2.1, v106.2.2.2.2.2.2.2.2.2.2.2.1, v140.2.1, v106.2.2.2.2.2.2.2.2.2.2.2.2.2)
                            else
                              some (Sum.inl (v140.1, (v106.2.1, v106.2.2.1, v106.2.2.2.1, v106.2.2.2.2.1, v106.2.2.2.2.2.1, v106.2.2.2.2.2.2.1, v106.2.2.2.2.2.2.2.1, v140.2.2, v106.2.2.2.2.2.2.2.2.2.1, v106.2.2.2.2.2.2.2.2.2.2.1, v106.2.2.2.2.2.2.2.2.2.2.2.1, v140.2.1, v106.2.2.2.2.2.2.2.2.2.2.2.2.2)))))))
                  else
                    none
                else
                  if v106.1 = 0 then
                    L_V_layBase_3_71 em cm tm v11 y_23 n (x71_8 + 1) v106.2
                  else
                    some (Sum.inl (v106.1, v106.2))))
          else
            none)
def f_V_layBase_3 (em : TreeV) (cm : Nat → Option ComV) (tm : Nat → Option TreeV) (σ : VSt) (h0 : Nat) (h1 : Nat) : Option (Int32 × VSt) :=
  Option.bind (f_V_meetsOf em cm tm σ h0 h1) (fun v11 =>
    Option.bind (f_V_nextIn v11 0) (fun v20 =>
      Option.bind (f_V_commitAt em cm tm σ v20) (fun v23 =>
        zo_m (v23) (
          Option.bind (f_T_become σ.2.2.2.2.2.2.2.2.2.2.2.1 em) (fun v47 =>
            some (0, (σ.1, σ.2.1, σ.2.2.1, σ.2.2.2.1, σ.2.2.2.2.1, σ.2.2.2.2.2.1, σ.2.2.2.2.2.2.1, σ.2.2.2.2.2.2.2.1, σ.2.2.2.2.2.2.2.2.1, σ.2.2.2.2.2.2.2.2.2.1, σ.2.2.2.2.2.2.2.2.2.2.1, v47, σ.2.2.2.2.2.2.2.2.2.2.2.2)))) (fun y_23 =>
          Option.bind (cm y_23) (fun o_44 =>
            Option.bind (tm o_44.2.2.2.2.1) (fun o_47 =>
              Option.bind (f_T_become σ.2.2.2.2.2.2.2.2.2.2.2.1 o_47) (fun v47 =>
                Option.bind (L_V_layBase_3_71 em cm tm v11 y_23 zfuel (o_44.1 + 1) (σ.1, σ.2.1, σ.2.2.1, σ.2.2.2.1, σ.2.2.2.2.1, σ.2.2.2.2.2.1, σ.2.2.2.2.2.2.1, σ.2.2.2.2.2.2.2.1, σ.2.2.2.2.2.2.2.2.1, σ.2.2.2.2.2.2.2.2.2.1, σ.2.2.2.2.2.2.2.2.2.2.1, v47, σ.2.2.2.2.2.2.2.2.2.2.2.2)) (fun w71 =>
                  zs_m w71 (fun r => some r) (fun u71 =>
                    some (0, u71.2))))))))))
set_option maxHeartbeats 4000000 in
set_option maxRecDepth 100000 in
theorem c_V_layBase_3 (l : Launch) (D : va_G) (tys : List (ClassId × FieldType)) (sz : Nat) (q : Nat → Nat) (cM : ClassId) (cH : ClassId) (cW : ClassId) (cL : ClassId) (cB : ClassId) (cS : ClassId) (em : TreeV) (pl : va_W) (cm : Nat → Option ComV) (tm : Nat → Option TreeV) (hpl : zpool pl cm tm) (σ : VSt) (h0 : Nat) (h1 : Nat) (v : Int32 × VSt) (hres : f_V_layBase_3 em cm tm σ h0 h1 = some v) : Met l y_V_layBase w_V_layBase ({ frames := 4, cells := 0, slots := 0, locals := 102 } : Room) (va_Pc ([.ref (q 0), .ref h0, .ref h1, .int 3]) (zrw D [(cM, .object R_C), (cH, .int), (cW, .boolean), (cL, .int), (cB, .int), (cS, .object R_T)] sz (zX q cM cH cW cL cB cS em σ ++ pl))) (qd_V_layBase_3 D tys q cM cH cW cL cB cS em pl cm tm σ h0 h1 v (va_A (zX q cM cH cW cL cB cS em σ ++ pl) sz)) 0 0 (va_A (zX q cM cH cW cL cB cS em σ ++ pl) sz) := by
  refine Met.ofW (cc := b_V_layBase) (maxL := 10) (ret := (some .int)) (by decide) rfl ?_
  intro p e s m args below meth c s₁ B hml hv
  obtain ⟨rfl, hsz, hP, hK, hD0, hN⟩ := hv
  have hx := B.exec
  have hb := B.bytes
  have hr := B.returns
  have hts : ∀ w ∈ zt, w.before ([.ref (q 0), .ref h0, .ref h1, .int 3].toArray) s = true := fun w h => atoms_spec (ws := w_V_layBase) B.pre w (List.mem_cons_of_mem _ h)
  have hown : s.vm.findClass R_V = some m.cls := findClass_of_methodNamed B.named
  have hlocks := B.notSynchronized
  subst hsz
  have hD := hD0.self (sz := s.heap.size)
  generalize hAe : va_A (zX q cM cH cW cL cB cS em σ ++ pl) s.heap.size = A at hD ⊢
  have hA : ∀ q : Nat, s.heap.size ≤ q → A q := fun q h => by rw [← hAe]; exact Or.inr h
  have hS : va_S A s.heap s.heap [] := va_S.rf
  have hP : va_P D vwCl (zX q cM cH cW cL cB cS em σ ++ pl) s.heap := hP
  have hD : va_D A (zX q cM cH cW cL cB cS em σ ++ pl) := hD
  have hl := lv_entry ([.ref (q 0), .ref h0, .ref h1, .int 3]) (n := 10) (Nat.le_of_ble_eq_true rfl)
  rw [lg_entry_eq]
  generalize (lg_sl ([.ref (q 0), .ref h0, .ref h1, .int 3]) ++ List.replicate (10 - (lg_sl ([.ref (q 0), .ref h0, .ref h1, .int 3])).length) Slot.unset).toArray = ls at hl ⊢
  have hl : lv_has ls 10 [(0, .ref (q 0)), (1, .ref h0), (2, .ref h1), (3, .int 3)] := hl
  unfold f_V_layBase_3 at hres
  refine lv_aload_n hx hb d_V_layBase_0 rfl (lv_at hl 0 rfl) ?_
  refine va_get (D := D) (ci := 3) (v := .ref (q 9)) (C := R_V) (T := T_V) (N := 10) hx hb hts in_V hown hK hP (0) rfl rfl 9 (by decide) (hts _ k_145) (fun _ h9 => h9) rfl d_V_layBase_1 ?_
  refine lv_iload_n hx hb d_V_layBase_4 rfl (lv_at hl 3 rfl) ?_
  refine va_aldq hx hb hK hP 9 5 rfl rfl (show zin 3 5 by decide) d_V_layBase_5 ?_
  refine W.eq (g2 := F0 m 6 ls [.ref (q 13)]) rfl ?_
  refine lv_astore (lv' := [(4, .ref (q 13)), (0, .ref (q 0)), (1, .ref h0), (2, .ref h1), (3, .int 3)]) hx hb d_V_layBase_6 hl (by decide) rfl (fun ls hl => ?_)
  refine lv_aload_n hx hb d_V_layBase_8 rfl (lv_at hl 1 rfl) ?_
  refine lv_aload_n hx hb d_V_layBase_9 rfl (lv_at hl 2 rfl) ?_
  refine lv_aload_n hx hb d_V_layBase_10 rfl (lv_at hl 3 rfl) ?_
  obtain ⟨v11, hc11, hres⟩ := zo_b hres
  refine vp_callSl (va_Run.run (va_runV (As := [.ref h0, .ref h1]) (rest := []) ⟨hx, hb, hml, hown, hts⟩ (c_V_meetsOf l D [(cM, .object R_C), (cH, .int), (cW, .boolean), (cL, .int), (cB, .int), (cS, .object R_T)] q cM cH cW cL cB cS em pl cm tm hpl σ h0 h1 v11 hc11) (cwV 2 hts (zg_V k_308 k_310 k_6 k_29 g_V_meetsOf) rfl rfl rfl ⟨rfl, hd_V_meetsOf⟩ ⟨Nat.le_of_ble_eq_true rfl, Nat.le_of_ble_eq_true rfl⟩) ⟨zro_b _, va_recv hK hP (q0 := 0) rfl rfl, zro_p hP hK hN _⟩ rfl rfl hl.1 rfl (lv_room (Nat.le_of_ble_eq_true rfl)) d_V_layBase_11 ⟨Nat.zero_le _, Nat.zero_le _⟩)) (fun r_11 er_11 => ?_)
  have er_11 := er_11.symm
  subst er_11
  refine lv_lstore (lv' := [(5, .long v11), (4, .ref (q 13)), (0, .ref (q 0)), (1, .ref h0), (2, .ref h1), (3, .int 3)]) hx hb d_V_layBase_14 hl (by decide) rfl (fun ls hl => ?_)
  refine lv_aload_n hx hb d_V_layBase_16 rfl (lv_at hl 2 rfl) ?_
  refine lv_lload hx hb d_V_layBase_17 (lv_at hl 0 rfl) ?_
  refine lv_iconst (v := 0) hx hb d_V_layBase_19 (by decide) ?_
  obtain ⟨v20, hc20, hres⟩ := zo_b hres
  refine vp_callSi (va_Run.run (va_runS (As := [.long v11, .int 0]) (rest := [.ref (q 0)]) ⟨hx, hb, hml, hown, hts⟩ (c_V_nextIn l D [(cM, .object R_C), (cH, .int), (cW, .boolean), (cL, .int), (cB, .int), (cS, .object R_T)] v11 0 v20 hc20) (va_cwS 2 hts (zg_S k_319 k_320 k_29 g_V_nextIn) rfl rfl rfl hd_V_nextIn ⟨Nat.le_of_ble_eq_true rfl, Nat.le_of_ble_eq_true rfl⟩) ⟨zro_b _, zro_p va_Pnil hK hN _⟩ rfl rfl hl.1 rfl (lv_room (Nat.le_of_ble_eq_true rfl)) d_V_layBase_20 ⟨Nat.zero_le _, Nat.zero_le _⟩)) (fun r_20 er_20 => ?_)
  have er_20 := er_20.symm
  subst er_20
  obtain ⟨v23, hc23, hres⟩ := zo_b hres
  refine va_csq (va_Run.run (va_runV (As := [.int v20]) (rest := []) ⟨hx, hb, hml, hown, hts⟩ (c_V_commitAt l D [(cM, .object R_C), (cH, .int), (cW, .boolean), (cL, .int), (cB, .int), (cS, .object R_T)] q cM cH cW cL cB cS em pl cm tm hpl σ v20 v23 hc23) (cwV 1 hts (zg_V k_179 k_181 k_0 k_29 g_V_commitAt) rfl rfl rfl ⟨rfl, hd_V_commitAt⟩ ⟨Nat.le_of_ble_eq_true rfl, Nat.le_of_ble_eq_true rfl⟩) ⟨zro_b _, va_recv hK hP (q0 := 0) rfl rfl, zro_p hP hK hN _⟩ rfl rfl hl.1 rfl (lv_room (Nat.le_of_ble_eq_true rfl)) d_V_layBase_23 ⟨Nat.zero_le _, Nat.zero_le _⟩)) (fun r_23 er_23 => ?_)
  have er_23 := er_23.symm
  subst er_23
  rcases hq_23 : v23 with _ | y_23
  · have hres := zo_n hq_23 hres
    refine lv_astoreN (lv' := [(7, .null), (5, .long v11), (4, .ref (q 13)), (0, .ref (q 0)), (1, .ref h0), (2, .ref h1), (3, .int 3)]) hx hb d_V_layBase_26 hl (by decide) rfl (fun ls hl => ?_)
    refine lv_aload hx hb d_V_layBase_28 (lv_at hl 2 rfl) ?_
    refine lv_aloadN hx hb d_V_layBase_30 (lv_at hl 0 rfl) ?_
    refine lv_ifnonnullN hx hb d_V_layBase_32 ?_
    refine lv_aload_n hx hb d_V_layBase_35 rfl (lv_at hl 3 rfl) ?_
    refine va_get (D := D) (ci := 3) (v := .ref (q 5)) (C := R_V) (T := T_V) (N := 10) hx hb hts in_V hown hK hP (0) rfl rfl 6 (by decide) (hts _ k_142) (fun _ h9 => h9) rfl d_V_layBase_36 ?_
    refine lv_goto (tgt := 47) hx hb d_V_layBase_39 (by decide) ?_
    obtain ⟨v47, hc47, hres⟩ := zo_b hres
    have hWc : ([13] : List Nat).map (fun i => (zX q cM cH cW cL cB cS em σ ++ pl)[i]?) = ([(q 13, zcT σ.2.2.2.2.2.2.2.2.2.2.2.1)] : va_W).map some := (zcons rfl znil)
    have hRc : ([5] : List Nat).map (fun i => (zX q cM cH cW cL cB cS em σ ++ pl)[i]?) = ([(q 5, zcT em)] : va_W).map some := (zcons rfl znil)
    refine zd_v (wcw := [(q 13, zcT σ.2.2.2.2.2.2.2.2.2.2.2.1)]) (wro := [(q 5, zcT em)]) (w1w := [(q 13, zcT v47)]) (va_runV (As := [.ref (q 5)]) (rest := []) ⟨hx, hb, hml, hown, hts⟩ (c_T_become l D [(cM, .object R_C), (cH, .int), (cW, .boolean), (cL, .int), (cB, .int), (cS, .object R_T)] _ (q 13) (q 5) σ.2.2.2.2.2.2.2.2.2.2.2.1 em v47 hc47) (cwV 1 hts (zg_V k_208 k_209 k_210 k_30 g_T_become) rfl rfl rfl ⟨rfl, hd_T_become⟩ ⟨Nat.le_of_ble_eq_true rfl, Nat.le_of_ble_eq_true rfl⟩) ⟨zrw_b _, va_recv hK hP (q0 := 13) rfl rfl, zrw_p hP hD hK hN [13] [5] hWc hRc (by decide) _⟩ rfl rfl hl.1 rfl (lv_room (Nat.le_of_ble_eq_true rfl)) d_V_layBase_47 ⟨Nat.zero_le _, Nat.zero_le _⟩) hP hD hS hA [13] [5] hWc hRc rfl (fun H locs hP hD hS => ?_)
    have hP : va_P D vwCl ([(q 0, .inr (3, [.ref (q 1), .int σ.1, .ref (q 2), .ref (q 3), .ref (q 4), .int σ.2.1, .ref (q 5), .ref (q 7), .ref (q 6), .ref (q 9)])), (q 1, .inl (cM, 60, .inr (.inr (.inr (.inr σ.2.2.1))))), (q 2, .inl (cH, 4, .inl σ.2.2.2.1)), (q 3, .inl (cW, 4, .inl σ.2.2.2.2.1)), (q 4, .inl (cL, 100, .inl σ.2.2.2.2.2.1)), (q 5, zcT em), (q 6, zcT σ.2.2.2.2.2.2.1), (q 7, .inr (2, [.ref (q 8)])), (q 8, .inl (cB, 16, .inl σ.2.2.2.2.2.2.2.1)), (q 9, .inl (cS, 5, .inr (.inr (.inr (.inr (zbs q)))))), (q 10, zcT σ.2.2.2.2.2.2.2.2.1), (q 11, zcT σ.2.2.2.2.2.2.2.2.2.1), (q 12, zcT σ.2.2.2.2.2.2.2.2.2.2.1), (q 13, zcT v47), (q 14, zcT σ.2.2.2.2.2.2.2.2.2.2.2.2)] ++ pl) H := hP
    have hD : va_D A ([(q 0, .inr (3, [.ref (q 1), .int σ.1, .ref (q 2), .ref (q 3), .ref (q 4), .int σ.2.1, .ref (q 5), .ref (q 7), .ref (q 6), .ref (q 9)])), (q 1, .inl (cM, 60, .inr (.inr (.inr (.inr σ.2.2.1))))), (q 2, .inl (cH, 4, .inl σ.2.2.2.1)), (q 3, .inl (cW, 4, .inl σ.2.2.2.2.1)), (q 4, .inl (cL, 100, .inl σ.2.2.2.2.2.1)), (q 5, zcT em), (q 6, zcT σ.2.2.2.2.2.2.1), (q 7, .inr (2, [.ref (q 8)])), (q 8, .inl (cB, 16, .inl σ.2.2.2.2.2.2.2.1)), (q 9, .inl (cS, 5, .inr (.inr (.inr (.inr (zbs q)))))), (q 10, zcT σ.2.2.2.2.2.2.2.2.1), (q 11, zcT σ.2.2.2.2.2.2.2.2.2.1), (q 12, zcT σ.2.2.2.2.2.2.2.2.2.2.1), (q 13, zcT v47), (q 14, zcT σ.2.2.2.2.2.2.2.2.2.2.2.2)] ++ pl) := hD
    refine lv_aloadN hx hb d_V_layBase_50 (lv_at hl 0 rfl) ?_
    refine lv_ifnullN (tgt := 60) hx hb d_V_layBase_52 (by decide) ?_
    refine lv_iconst (v := 0) hx hb d_V_layBase_60 (by decide) ?_
    obtain rfl := Option.some.inj hres
    exact W.iret (v := 0) hx hb hr (fun t ht hW => ⟨⟨_, (), rfl, rfl, by rw [ht]; exact hP, va_K.moved hW.alike hK, hD⟩, hS.F ht⟩) hS.2.2 d_V_layBase_61
  · have hres := zo_s hq_23 hres
    refine lv_astore (lv' := [(7, .ref y_23), (5, .long v11), (4, .ref (q 13)), (0, .ref (q 0)), (1, .ref h0), (2, .ref h1), (3, .int 3)]) hx hb d_V_layBase_26 hl (by decide) rfl (fun ls hl => ?_)
    refine lv_aload hx hb d_V_layBase_28 (lv_at hl 2 rfl) ?_
    refine lv_aload hx hb d_V_layBase_30 (lv_at hl 0 rfl) ?_
    refine lv_ifnonnull (tgt := 42) hx hb d_V_layBase_32 (by decide) ?_
    refine lv_aload hx hb d_V_layBase_42 (lv_at hl 0 rfl) ?_
    obtain ⟨o_44, ho_44, hres⟩ := zo_b hres
    obtain ⟨ko_44, hko_44⟩ := hpl.1 _ _ ho_44
    refine va_get (D := D) (ci := 1) (v := .ref o_44.2.2.2.2.1) (C := R_C) (T := T_C) (N := 7) hx hb hts in_C hown hK hP (15 + ko_44) (zpl_get hko_44) rfl 4 (by decide) (hts _ k_259) (fun _ h9 => h9) rfl d_V_layBase_44 ?_
    obtain ⟨o_47, ho_47, hres⟩ := zo_b hres
    obtain ⟨ko_47, hko_47⟩ := hpl.2 _ _ ho_47
    obtain ⟨v47, hc47, hres⟩ := zo_b hres
    have hWc : ([13] : List Nat).map (fun i => (zX q cM cH cW cL cB cS em σ ++ pl)[i]?) = ([(q 13, zcT σ.2.2.2.2.2.2.2.2.2.2.2.1)] : va_W).map some := (zcons rfl znil)
    have hRc : ([15 + ko_47] : List Nat).map (fun i => (zX q cM cH cW cL cB cS em σ ++ pl)[i]?) = ([(o_44.2.2.2.2.1, zcT o_47)] : va_W).map some := (zcons (zpl_get hko_47) znil)
    refine zd_v (wcw := [(q 13, zcT σ.2.2.2.2.2.2.2.2.2.2.2.1)]) (wro := [(o_44.2.2.2.2.1, zcT o_47)]) (w1w := [(q 13, zcT v47)]) (va_runV (As := [.ref o_44.2.2.2.2.1]) (rest := []) ⟨hx, hb, hml, hown, hts⟩ (c_T_become l D [(cM, .object R_C), (cH, .int), (cW, .boolean), (cL, .int), (cB, .int), (cS, .object R_T)] _ (q 13) o_44.2.2.2.2.1 σ.2.2.2.2.2.2.2.2.2.2.2.1 o_47 v47 hc47) (cwV 1 hts (zg_V k_208 k_209 k_210 k_30 g_T_become) rfl rfl rfl ⟨rfl, hd_T_become⟩ ⟨Nat.le_of_ble_eq_true rfl, Nat.le_of_ble_eq_true rfl⟩) ⟨zrw_b _, va_recv hK hP (q0 := 13) rfl rfl, zrw_p hP hD hK hN [13] [15 + ko_47] hWc hRc (by simp [va_nd] <;> omega) _⟩ rfl rfl hl.1 rfl (lv_room (Nat.le_of_ble_eq_true rfl)) d_V_layBase_47 ⟨Nat.zero_le _, Nat.zero_le _⟩) hP hD hS hA [13] [15 + ko_47] hWc hRc rfl (fun H locs hP hD hS => ?_)
    have hP : va_P D vwCl ([(q 0, .inr (3, [.ref (q 1), .int σ.1, .ref (q 2), .ref (q 3), .ref (q 4), .int σ.2.1, .ref (q 5), .ref (q 7), .ref (q 6), .ref (q 9)])), (q 1, .inl (cM, 60, .inr (.inr (.inr (.inr σ.2.2.1))))), (q 2, .inl (cH, 4, .inl σ.2.2.2.1)), (q 3, .inl (cW, 4, .inl σ.2.2.2.2.1)), (q 4, .inl (cL, 100, .inl σ.2.2.2.2.2.1)), (q 5, zcT em), (q 6, zcT σ.2.2.2.2.2.2.1), (q 7, .inr (2, [.ref (q 8)])), (q 8, .inl (cB, 16, .inl σ.2.2.2.2.2.2.2.1)), (q 9, .inl (cS, 5, .inr (.inr (.inr (.inr (zbs q)))))), (q 10, zcT σ.2.2.2.2.2.2.2.2.1), (q 11, zcT σ.2.2.2.2.2.2.2.2.2.1), (q 12, zcT σ.2.2.2.2.2.2.2.2.2.2.1), (q 13, zcT v47), (q 14, zcT σ.2.2.2.2.2.2.2.2.2.2.2.2)] ++ pl) H := hP
    have hD : va_D A ([(q 0, .inr (3, [.ref (q 1), .int σ.1, .ref (q 2), .ref (q 3), .ref (q 4), .int σ.2.1, .ref (q 5), .ref (q 7), .ref (q 6), .ref (q 9)])), (q 1, .inl (cM, 60, .inr (.inr (.inr (.inr σ.2.2.1))))), (q 2, .inl (cH, 4, .inl σ.2.2.2.1)), (q 3, .inl (cW, 4, .inl σ.2.2.2.2.1)), (q 4, .inl (cL, 100, .inl σ.2.2.2.2.2.1)), (q 5, zcT em), (q 6, zcT σ.2.2.2.2.2.2.1), (q 7, .inr (2, [.ref (q 8)])), (q 8, .inl (cB, 16, .inl σ.2.2.2.2.2.2.2.1)), (q 9, .inl (cS, 5, .inr (.inr (.inr (.inr (zbs q)))))), (q 10, zcT σ.2.2.2.2.2.2.2.2.1), (q 11, zcT σ.2.2.2.2.2.2.2.2.2.1), (q 12, zcT σ.2.2.2.2.2.2.2.2.2.2.1), (q 13, zcT v47), (q 14, zcT σ.2.2.2.2.2.2.2.2.2.2.2.2)] ++ pl) := hD
    refine lv_aload hx hb d_V_layBase_50 (lv_at hl 0 rfl) ?_
    refine lv_ifnull hx hb d_V_layBase_52 ?_
    refine lv_iload_n hx hb d_V_layBase_55 rfl (lv_at hl 6 rfl) ?_
    refine lv_iconst (v := 4) hx hb d_V_layBase_56 (by decide) ?_
    refine lv_icmp_lt (tgt := 62) hx hb d_V_layBase_57 (by decide) (fun _ => ?_) (fun c => absurd c (by decide))
    refine lv_aload hx hb d_V_layBase_62 (lv_at hl 0 rfl) ?_
    refine va_get (D := D) (ci := 1) (v := .int o_44.1) (C := R_C) (T := T_C) (N := 7) hx hb hts in_C hown hK hP (15 + ko_44) (zpl_get hko_44) rfl 0 (by decide) (hts _ k_251) (fun _ h9 => h9) rfl d_V_layBase_64 ?_
    refine lv_iconst (v := 1) hx hb d_V_layBase_67 (by decide) ?_
    refine lv_iadd hx hb d_V_layBase_68 ?_
    refine lv_istore (lv' := [(8, .int (o_44.1 + 1)), (7, .ref y_23), (5, .long v11), (4, .ref (q 13)), (0, .ref (q 0)), (1, .ref h0), (2, .ref h1), (3, .int 3)]) hx hb d_V_layBase_69 hl (by decide) rfl (fun ls hl => ?_)
    obtain ⟨w71, hL71, hres⟩ := zo_b hres
    have hk71 : ∀ (u71 : Int32 × VSt), w71 = Sum.inr u71 → ∀ (H : Heap) (locs : List Loc), va_P D vwCl (zX q cM cH cW cL cB cS em u71.2 ++ pl) H → va_D A (zX q cM cH cW cL cB cS em u71.2 ++ pl) → va_S A s.heap H locs → ∀ (ls : Array Slot), lv_has ls 10 [(8, .int u71.1), (7, .ref y_23), (5, .long v11), (4, .ref (q 13)), (0, .ref (q 0)), (1, .ref h0), (2, .ref h1), (3, .int 3)] → W p l e (headSpec w_V_layBase ({ frames := 4, cells := 0, slots := 0, locals := 102 } : Room)).room s m ([.ref (q 0), .ref h0, .ref h1, .int 3].toArray) below meth c H locs 0 0 (MQ below (qd_V_layBase_3 D tys q cM cH cW cL cB cS em pl cm tm σ h0 h1 v A) ([.ref (q 0), .ref h0, .ref h1, .int 3].toArray) s 0 0 A) (F0 m 159 ls []) := by
      intro u71 hu71 H locs hP hD hS ls hl
      subst hu71
      have hres := zs_r hres
      refine lv_iconst (v := 0) hx hb d_V_layBase_159 (by decide) ?_
      obtain rfl := Option.some.inj hres
      exact W.iret (v := 0) hx hb hr (fun t ht hW => ⟨⟨_, (), rfl, rfl, by rw [ht]; exact hP, va_K.moved hW.alike hK, hD⟩, hS.F ht⟩) hS.2.2 d_V_layBase_160
    have hloop71 : ∀ (n : Nat) (x71_8 : Int32) (g71 : VSt) (H : Heap) (locs : List Loc), va_P D vwCl (zX q cM cH cW cL cB cS em g71 ++ pl) H → va_D A (zX q cM cH cW cL cB cS em g71 ++ pl) → va_S A s.heap H locs → ∀ (ls : Array Slot), lv_has ls 10 [(8, .int x71_8), (7, .ref y_23), (5, .long v11), (4, .ref (q 13)), (0, .ref (q 0)), (1, .ref h0), (2, .ref h1), (3, .int 3)] → L_V_layBase_3_71 em cm tm v11 y_23 n x71_8 g71 = some w71 → W p l e (headSpec w_V_layBase ({ frames := 4, cells := 0, slots := 0, locals := 102 } : Room)).room s m ([.ref (q 0), .ref h0, .ref h1, .int 3].toArray) below meth c H locs 0 0 (MQ below (qd_V_layBase_3 D tys q cM cH cW cL cB cS em pl cm tm σ h0 h1 v A) ([.ref (q 0), .ref h0, .ref h1, .int 3].toArray) s 0 0 A) (F0 m 71 ls []) := by
      intro n
      induction n with
      | zero => intro x71_8 g71 H locs hP hD hS ls hl hL71; cases hL71
      | succ n ih =>
        intro x71_8 g71 H locs hP hD hS ls hl hL71
        rw [L_V_layBase_3_71] at hL71
        refine lv_iload hx hb d_V_layBase_71 (lv_at hl 0 rfl) ?_
        refine lv_aload_n hx hb d_V_layBase_73 rfl (lv_at hl 4 rfl) ?_
        refine va_get (D := D) (ci := 3) (v := .int g71.1) (C := R_V) (T := T_V) (N := 10) hx hb hts in_V hown hK hP (0) rfl rfl 1 (by decide) (hts _ k_137) (fun _ h9 => h9) rfl d_V_layBase_74 ?_
        refine lv_icmp_ge (tgt := 159) hx hb d_V_layBase_77 (by decide) (fun c_77 => ?_) (fun c_77 => ?_)
        · have hL71 := zi_p c_77 hL71
          obtain rfl := Option.some.inj hL71
          exact hk71 _ rfl _ _ hP hD hS ls (lv_sub hl [0, 1, 2, 3, 4, 5, 6, 7] rfl)
        · have hL71 := zi_n c_77 hL71
          refine lv_lload hx hb d_V_layBase_80 (lv_at hl 2 rfl) ?_
          refine lv_iload hx hb d_V_layBase_82 (lv_at hl 0 rfl) ?_
          obtain ⟨v84, hc84, hL71⟩ := zo_b hL71
          refine vp_callSi (va_Run.run (va_runS (As := [.long v11, .int x71_8]) (rest := []) ⟨hx, hb, hml, hown, hts⟩ (c_V_isIn l D [(cM, .object R_C), (cH, .int), (cW, .boolean), (cL, .int), (cB, .int), (cS, .object R_T)] v11 x71_8 v84 hc84) (va_cwS 2 hts (zg_S k_312 k_196 k_29 g_V_isIn) rfl rfl rfl hd_V_isIn ⟨Nat.le_of_ble_eq_true rfl, Nat.le_of_ble_eq_true rfl⟩) ⟨zro_b _, zro_p va_Pnil hK hN _⟩ rfl rfl hl.1 rfl (lv_room (Nat.le_of_ble_eq_true rfl)) d_V_layBase_84 ⟨Nat.zero_le _, Nat.zero_le _⟩)) (fun r_84 er_84 => ?_)
          have er_84 := er_84.symm
          subst er_84
          refine lv_if_ne (tgt := 93) hx hb d_V_layBase_87 (by decide) (fun c_87 => ?_) (fun c_87 => ?_)
          · have hL71 := zi_n c_87 hL71
            refine lv_aload_n hx hb d_V_layBase_93 rfl (lv_at hl 4 rfl) ?_
            refine lv_aload hx hb d_V_layBase_94 (lv_at hl 1 rfl) ?_
            refine lv_aload_n hx hb d_V_layBase_96 rfl (lv_at hl 4 rfl) ?_
            refine va_get (D := D) (ci := 3) (v := .ref (q 1)) (C := R_V) (T := T_V) (N := 10) hx hb hts in_V hown hK hP (0) rfl rfl 0 (by decide) (hts _ k_136) (fun _ h9 => h9) rfl d_V_layBase_97 ?_
            refine lv_iload hx hb d_V_layBase_100 (lv_at hl 0 rfl) ?_
            by_cases ck_102 : zin x71_8 60
            · have hL71 := zi_p ck_102 hL71
              refine va_aldq hx hb hK hP 1 0 rfl rfl ck_102 d_V_layBase_102 ?_
              rcases hq_102 : (g71.2.2.1 x71_8.toNatClampNeg) with _ | y_102
              · have hL71 := zo_n hq_102 hL71
                refine lv_iload_n hx hb d_V_layBase_103 rfl (lv_at hl 7 rfl) ?_
                refine lv_iconst (v := 1) hx hb d_V_layBase_104 (by decide) ?_
                refine lv_iadd hx hb d_V_layBase_105 ?_
                refine W.eq (g2 := F0 m 106 ls [.int 4, .null, .ref y_23, .ref (q 0)]) rfl ?_
                exact absurd hL71 (by simp)
              · have hL71 := zo_s hq_102 hL71
                refine lv_iload_n hx hb d_V_layBase_103 rfl (lv_at hl 7 rfl) ?_
                refine lv_iconst (v := 1) hx hb d_V_layBase_104 (by decide) ?_
                refine lv_iadd hx hb d_V_layBase_105 ?_
                refine W.eq (g2 := F0 m 106 ls [.int 4, .ref y_102, .ref y_23, .ref (q 0)]) rfl ?_
                obtain ⟨v106, hc106, hL71⟩ := zo_b hL71
                refine zw_i (ws' := zX q cM cH cW cL cB cS em v106.2 ++ pl) (v := v106.1) (va_runV (As := [.ref y_23, .ref y_102, .int 4]) (rest := []) ⟨hx, hb, hml, hown, hts⟩ (c_V_layBase_4 l D [(cM, .object R_C), (cH, .int), (cW, .boolean), (cL, .int), (cB, .int), (cS, .object R_T)] _ q cM cH cW cL cB cS em pl cm tm hpl g71 y_23 y_102 v106 hc106) (cwV 3 hts (zg_V k_304 k_306 k_5 k_29 g_V_layBase) rfl rfl rfl ⟨rfl, hd_V_layBase⟩ ⟨Nat.le_of_ble_eq_true rfl, Nat.le_of_ble_eq_true rfl⟩) ⟨zrw_b _, va_recv hK hP (q0 := 0) rfl rfl, zrw_w hP hD hK hN _⟩ rfl rfl hl.1 rfl (lv_room (Nat.le_of_ble_eq_true rfl)) d_V_layBase_106 ⟨Nat.le_of_ble_eq_true rfl, Nat.le_of_ble_eq_true rfl⟩) hD hS hA (fun H locs hP hD hS => ?_)
                have hP : va_P D vwCl (zX q cM cH cW cL cB cS em v106.2 ++ pl) H := hP
                have hD : va_D A (zX q cM cH cW cL cB cS em v106.2 ++ pl) := hD
                refine lv_istore (lv' := [(9, .int v106.1), (8, .int x71_8), (7, .ref y_23), (5, .long v11), (4, .ref (q 13)), (0, .ref (q 0)), (1, .ref h0), (2, .ref h1), (3, .int 3)]) hx hb d_V_layBase_109 hl (by decide) rfl (fun ls hl => ?_)
                refine lv_iload hx hb d_V_layBase_111 (lv_at hl 0 rfl) ?_
                refine lv_if_ne (tgt := 145) hx hb d_V_layBase_113 (by decide) (fun c_113 => ?_) (fun c_113 => ?_)
                · have hL71 := zi_n c_113 hL71
                  refine lv_iload hx hb d_V_layBase_145 (lv_at hl 0 rfl) ?_
                  refine lv_if_eq (tgt := 153) hx hb d_V_layBase_147 (by decide) (fun c_147 => ?_) (fun c_147 => ?_)
                  · have hL71 := zi_p c_147 hL71
                    refine lv_iinc (v := (x71_8 + 1)) (lv' := [(8, .int (x71_8 + 1)), (9, .int v106.1), (7, .ref y_23), (5, .long v11), (4, .ref (q 13)), (0, .ref (q 0)), (1, .ref h0), (2, .ref h1), (3, .int 3)]) hx hb d_V_layBase_153 hl (k := 1) rfl rfl (by decide) rfl (fun ls hl => ?_)
                    refine lv_goto (tgt := 71) hx hb d_V_layBase_156 (by decide) ?_
                    exact ih (x71_8 + 1) v106.2 _ _ hP hD hS ls (lv_sub hl [0, 2, 3, 4, 5, 6, 7, 8] rfl) hL71
                  · have hL71 := zi_n c_147 hL71
                    refine lv_iload hx hb d_V_layBase_150 (lv_at hl 0 rfl) ?_
                    obtain rfl := Option.some.inj hL71
                    obtain rfl := Option.some.inj hres
                    exact W.iret (v := v106.1) hx hb hr (fun t ht hW => ⟨⟨_, (), rfl, rfl, by rw [ht]; exact hP, va_K.moved hW.alike hK, hD⟩, hS.F ht⟩) hS.2.2 d_V_layBase_152
                · have hL71 := zi_p c_113 hL71
                  refine lv_aload_n hx hb d_V_layBase_116 rfl (lv_at hl 5 rfl) ?_
                  refine va_get (D := D) (ci := 3) (v := .ref (q 7)) (C := R_V) (T := T_V) (N := 10) hx hb hts in_V hown hK hP (0) rfl rfl 7 (by decide) (hts _ k_143) (fun _ h9 => h9) rfl d_V_layBase_117 ?_
                  refine lv_aload hx hb d_V_layBase_120 (lv_at hl 4 rfl) ?_
                  refine lv_aload_n hx hb d_V_layBase_122 rfl (lv_at hl 5 rfl) ?_
                  refine va_get (D := D) (ci := 3) (v := .ref (q 9)) (C := R_V) (T := T_V) (N := 10) hx hb hts in_V hown hK hP (0) rfl rfl 9 (by decide) (hts _ k_145) (fun _ h9 => h9) rfl d_V_layBase_123 ?_
                  refine lv_iload_n hx hb d_V_layBase_126 rfl (lv_at hl 8 rfl) ?_
                  refine lv_iconst (v := 1) hx hb d_V_layBase_127 (by decide) ?_
                  refine lv_iadd hx hb d_V_layBase_128 ?_
                  refine W.eq (g2 := F0 m 129 ls [.int 4, .ref (q 9), .ref (q 13), .ref (q 7)]) rfl ?_
                  refine va_aldq hx hb hK hP 9 5 rfl rfl (show zin 4 5 by decide) d_V_layBase_129 ?_
                  refine W.eq (g2 := F0 m 130 ls [.ref (q 14), .ref (q 13), .ref (q 7)]) rfl ?_
                  refine lv_aload_n hx hb d_V_layBase_130 rfl (lv_at hl 5 rfl) ?_
                  refine va_get (D := D) (ci := 3) (v := .ref (q 1)) (C := R_V) (T := T_V) (N := 10) hx hb hts in_V hown hK hP (0) rfl rfl 0 (by decide) (hts _ k_136) (fun _ h9 => h9) rfl d_V_layBase_131 ?_
                  refine lv_iload hx hb d_V_layBase_134 (lv_at hl 1 rfl) ?_
                  by_cases ck_136 : zin x71_8 60
                  · have hL71 := zi_p ck_136 hL71
                    refine va_aldq hx hb hK hP 1 0 rfl rfl ck_136 d_V_layBase_136 ?_
                    rcases hq_136 : (v106.2.2.2.1 x71_8.toNatClampNeg) with _ | y_136
                    · have hL71 := zo_n hq_136 hL71
                      exact absurd hL71 (by simp)
                    · have hL71 := zo_s hq_136 hL71
                      obtain ⟨o_137, ho_137, hL71⟩ := zo_b hL71
                      obtain ⟨ko_137, hko_137⟩ := hpl.1 _ _ ho_137
                      refine va_get (D := D) (ci := 1) (v := .ref o_137.2.2.2.2.1) (C := R_C) (T := T_C) (N := 7) hx hb hts in_C hown hK hP (15 + ko_137) (zpl_get hko_137) rfl 4 (by decide) (hts _ k_259) (fun _ h9 => h9) rfl d_V_layBase_137 ?_
                      obtain ⟨o_140, ho_140, hL71⟩ := zo_b hL71
                      obtain ⟨ko_140, hko_140⟩ := hpl.2 _ _ ho_140
                      obtain ⟨v140, hc140, hL71⟩ := zo_b hL71
                      have hWc : ([13, 8] : List Nat).map (fun i => (zX q cM cH cW cL cB cS em v106.2 ++ pl)[i]?) = ([(q 13, zcT v106.2.2.2.2.2.2.2.2.2.2.2.2.1), (q 8, .inl (cB, 16, .inl v106.2.2.2.2.2.2.2.2.1))] : va_W).map some := (zcons rfl (zcons rfl znil))
                      have hRc : ([7, 14, 15 + ko_140] : List Nat).map (fun i => (zX q cM cH cW cL cB cS em v106.2 ++ pl)[i]?) = ([(q 7, .inr (2, [.ref (q 8)])), (q 14, zcT v106.2.2.2.2.2.2.2.2.2.2.2.2.2), (o_137.2.2.2.2.1, zcT o_140)] : va_W).map some := (zcons rfl (zcons rfl (zcons (zpl_get hko_140) znil)))
                      refine zd_i (wcw := [(q 13, zcT v106.2.2.2.2.2.2.2.2.2.2.2.2.1), (q 8, .inl (cB, 16, .inl v106.2.2.2.2.2.2.2.2.1))]) (wro := [(q 7, .inr (2, [.ref (q 8)])), (q 14, zcT v106.2.2.2.2.2.2.2.2.2.2.2.2.2), (o_137.2.2.2.2.1, zcT o_140)]) (w1w := [(q 13, zcT v140.2.1), (q 8, .inl (cB, 16, .inl v140.2.2))]) (v := v140.1) (va_runV (As := [.ref (q 13), .ref (q 14), .ref o_137.2.2.2.2.1]) (rest := []) ⟨hx, hb, hml, hown, hts⟩ (c_M_mergeInto l D [(cM, .object R_C), (cH, .int), (cW, .boolean), (cL, .int), (cB, .int), (cS, .object R_T)] _ (q 7) (q 13) (q 14) o_137.2.2.2.2.1 (q 8) cB 4 rfl v106.2.2.2.2.2.2.2.2.2.2.2.2.1 v106.2.2.2.2.2.2.2.2.1 v106.2.2.2.2.2.2.2.2.2.2.2.2.2 o_140 v140 hc140) (cwV 3 hts (zg_V k_322 k_323 k_324 k_31 g_M_mergeInto) rfl rfl rfl ⟨rfl, hd_M_mergeInto⟩ ⟨Nat.le_of_ble_eq_true rfl, Nat.le_of_ble_eq_true rfl⟩) ⟨zrw_b _, va_recv hK hP (q0 := 7) rfl rfl, zrw_p hP hD hK hN [13, 8] [7, 14, 15 + ko_140] hWc hRc (by simp [va_nd] <;> omega) _⟩ rfl rfl hl.1 rfl (lv_room (Nat.le_of_ble_eq_true rfl)) d_V_layBase_140 ⟨Nat.zero_le _, Nat.zero_le _⟩) hP hD hS hA [13, 8] [7, 14, 15 + ko_140] hWc hRc rfl (fun H locs hP hD hS => ?_)
                      have hP : va_P D vwCl ([(q 0, .inr (3, [.ref (q 1), .int v106.2.1, .ref (q 2), .ref (q 3), .ref (q 4), .int v106.2.2.1, .ref (q 5), .ref (q 7), .ref (q 6), .ref (q 9)])), (q 1, .inl (cM, 60, .inr (.inr (.inr (.inr v106.2.2.2.1))))), (q 2, .inl (cH, 4, .inl v106.2.2.2.2.1)), (q 3, .inl (cW, 4, .inl v106.2.2.2.2.2.1)), (q 4, .inl (cL, 100, .inl v106.2.2.2.2.2.2.1)), (q 5, zcT em), (q 6, zcT v106.2.2.2.2.2.2.2.1), (q 7, .inr (2, [.ref (q 8)])), (q 8, .inl (cB, 16, .inl v140.2.2)), (q 9, .inl (cS, 5, .inr (.inr (.inr (.inr (zbs q)))))), (q 10, zcT v106.2.2.2.2.2.2.2.2.2.1), (q 11, zcT v106.2.2.2.2.2.2.2.2.2.2.1), (q 12, zcT v106.2.2.2.2.2.2.2.2.2.2.2.1), (q 13, zcT v140.2.1), (q 14, zcT v106.2.2.2.2.2.2.2.2.2.2.2.2.2)] ++ pl) H := hP
                      have hD : va_D A ([(q 0, .inr (3, [.ref (q 1), .int v106.2.1, .ref (q 2), .ref (q 3), .ref (q 4), .int v106.2.2.1, .ref (q 5), .ref (q 7), .ref (q 6), .ref (q 9)])), (q 1, .inl (cM, 60, .inr (.inr (.inr (.inr v106.2.2.2.1))))), (q 2, .inl (cH, 4, .inl v106.2.2.2.2.1)), (q 3, .inl (cW, 4, .inl v106.2.2.2.2.2.1)), (q 4, .inl (cL, 100, .inl v106.2.2.2.2.2.2.1)), (q 5, zcT em), (q 6, zcT v106.2.2.2.2.2.2.2.1), (q 7, .inr (2, [.ref (q 8)])), (q 8, .inl (cB, 16, .inl v140.2.2)), (q 9, .inl (cS, 5, .inr (.inr (.inr (.inr (zbs q)))))), (q 10, zcT v106.2.2.2.2.2.2.2.2.2.1), (q 11, zcT v106.2.2.2.2.2.2.2.2.2.2.1), (q 12, zcT v106.2.2.2.2.2.2.2.2.2.2.2.1), (q 13, zcT v140.2.1), (q 14, zcT v106.2.2.2.2.2.2.2.2.2.2.2.2.2)] ++ pl) := hD
                      refine lv_istore (lv' := [(9, .int v140.1), (8, .int x71_8), (7, .ref y_23), (5, .long v11), (4, .ref (q 13)), (0, .ref (q 0)), (1, .ref h0), (2, .ref h1), (3, .int 3)]) hx hb d_V_layBase_143 hl (by decide) rfl (fun ls hl => ?_)
                      refine lv_iload hx hb d_V_layBase_145 (lv_at hl 0 rfl) ?_
                      refine lv_if_eq (tgt := 153) hx hb d_V_layBase_147 (by decide) (fun c_147 => ?_) (fun c_147 => ?_)
                      · have hL71 := zi_p c_147 hL71
                        refine lv_iinc (v := (x71_8 + 1)) (lv' := [(8, .int (x71_8 + 1)), (9, .int v140.1), (7, .ref y_23), (5, .long v11), (4, .ref (q 13)), (0, .ref (q 0)), (1, .ref h0), (2, .ref h1), (3, .int 3)]) hx hb d_V_layBase_153 hl (k := 1) rfl rfl (by decide) rfl (fun ls hl => ?_)
                        refine lv_goto (tgt := 71) hx hb d_V_layBase_156 (by decide) ?_
                        exact ih (x71_8 + 1) (v106.2.1, v106.2.2.1, v106.2.2.2.1, v106.2.2.2.2.1, v106.2.2.2.2.2.1, v106.2.2.2.2.2.2.1, v106.2.2.2.2.2.2.2.1, v140.2.2, v106.2.2.2.2.2.2.2.2.2.1, v106.2.2.2.2.2.2.2.2.2.2.1, v106.2.2.2.2.2.2.2.2.2.2.2.1, v140.2.1, v106.2.2.2.2.2.2.2.2.2.2.2.2.2) _ _ hP hD hS ls (lv_sub hl [0, 2, 3, 4, 5, 6, 7, 8] rfl) hL71
                      · have hL71 := zi_n c_147 hL71
                        refine lv_iload hx hb d_V_layBase_150 (lv_at hl 0 rfl) ?_
                        obtain rfl := Option.some.inj hL71
                        obtain rfl := Option.some.inj hres
                        exact W.iret (v := v140.1) hx hb hr (fun t ht hW => ⟨⟨_, (), rfl, rfl, by rw [ht]; exact hP, va_K.moved hW.alike hK, hD⟩, hS.F ht⟩) hS.2.2 d_V_layBase_152
                  · exact absurd (zi_n ck_136 hL71) (by simp)
            · exact absurd (zi_n ck_102 hL71) (by simp)
          · have hL71 := zi_p c_87 hL71
            refine lv_goto (tgt := 153) hx hb d_V_layBase_90 (by decide) ?_
            refine lv_iinc (v := (x71_8 + 1)) (lv' := [(8, .int (x71_8 + 1)), (7, .ref y_23), (5, .long v11), (4, .ref (q 13)), (0, .ref (q 0)), (1, .ref h0), (2, .ref h1), (3, .int 3)]) hx hb d_V_layBase_153 hl (k := 0) rfl rfl (by decide) rfl (fun ls hl => ?_)
            refine lv_goto (tgt := 71) hx hb d_V_layBase_156 (by decide) ?_
            exact ih (x71_8 + 1) g71 _ _ hP hD hS ls (lv_sub hl [0, 1, 2, 3, 4, 5, 6, 7] rfl) hL71
    exact hloop71 zfuel (o_44.1 + 1) (σ.1, σ.2.1, σ.2.2.1, σ.2.2.2.1, σ.2.2.2.2.1, σ.2.2.2.2.2.1, σ.2.2.2.2.2.2.1, σ.2.2.2.2.2.2.2.1, σ.2.2.2.2.2.2.2.2.1, σ.2.2.2.2.2.2.2.2.2.1, σ.2.2.2.2.2.2.2.2.2.2.1, v47, σ.2.2.2.2.2.2.2.2.2.2.2.2) _ _ hP hD hS ls (lv_sub hl [0, 1, 2, 3, 4, 5, 6, 7] rfl) hL71

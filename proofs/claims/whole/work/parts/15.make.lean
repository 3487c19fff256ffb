abbrev qd_V_commitDraft_nn (D : va_G) (tys : List (ClassId × FieldType)) (q : Nat → Nat) (cM : ClassId) (cH : ClassId) (cW : ClassId) (cL : ClassId) (cB : ClassId) (cS : ClassId) (em : TreeV) (pl : va_W) (cm : Nat → Option ComV) (tm : Nat → Option TreeV) (σ : VSt) (k : Int32) (v : Nat × Nat → Int32 × VSt × (Option (ComV × TreeV))) (A : Nat → Prop) : Array Value → State → Outcome → State → Prop := va_Qi (fun (r : Int32) (u : Nat × Nat) => r = (v u).1) (fun u t => zwd D [(cM, .object R_C), (cH, .int), (cW, .boolean), (cL, .int), (cB, .int), (cS, .object R_T)] (A) (zX q cM cH cW cL cB cS em (v u).2.1 ++ zpn pl u (v u).2.2) t) (A)

def f_V_commitDraft_nn (qn : Nat × Nat) (em : TreeV) (cm : Nat → Option ComV) (tm : Nat → Option TreeV) (σ : VSt) (k : Int32) : Option (Int32 × VSt × (Option (ComV × TreeV))) :=
  Option.bind (f_C_init_nnr σ.1 σ.2.2.2.2.2.2.1) (fun v24 =>
    if zin σ.1 60 then
      Option.bind (f_V_moveHead em cm tm ((σ.1 + 1), σ.2.1, (va_up σ.2.2.1 σ.1.toNatClampNeg (some qn.1)), σ.2.2.2.1, σ.2.2.2.2.1, σ.2.2.2.2.2.1, σ.2.2.2.2.2.2.1, σ.2.2.2.2.2.2.2.1, σ.2.2.2.2.2.2.2.2.1, σ.2.2.2.2.2.2.2.2.2.1, σ.2.2.2.2.2.2.2.2.2.2.1, σ.2.2.2.2.2.2.2.2.2.2.2.1, σ.2.2.2.2.2.2.2.2.2.2.2.2) k σ.1) (fun v42 =>
        some (σ.1, v42, some ((v24.1, v24.2.1, v24.2.2.1, v24.2.2.2.1, qn.2, v24.2.2.2.2.1, v24.2.2.2.2.2.1), v24.2.2.2.2.2.2)))
    else
      none)
set_option maxHeartbeats 4000000 in
set_option maxRecDepth 100000 in
theorem c_V_commitDraft_nn (l : Launch) (D : va_G) (tys : List (ClassId × FieldType)) (sz : Nat) (q : Nat → Nat) (cM : ClassId) (cH : ClassId) (cW : ClassId) (cL : ClassId) (cB : ClassId) (cS : ClassId) (em : TreeV) (pl : va_W) (cm : Nat → Option ComV) (tm : Nat → Option TreeV) (hpl : zpool pl cm tm) (σ : VSt) (k : Int32) (v : Nat × Nat → Int32 × VSt × (Option (ComV × TreeV))) (hres : ∀ qn : Nat × Nat, f_V_commitDraft_nn qn em cm tm σ k = some (v qn)) : Met l y_V_commitDraft w_V_commitDraft ({ frames := 3, cells := 2, slots := 17, locals := 74 } : Room) (va_Pc ([.ref (q 0), .int k, .null, .null]) (zrw D [(cM, .object R_C), (cH, .int), (cW, .boolean), (cL, .int), (cB, .int), (cS, .object R_T)] sz (zX q cM cH cW cL cB cS em σ ++ pl))) (qd_V_commitDraft_nn D tys q cM cH cW cL cB cS em pl cm tm σ k v (va_A (zX q cM cH cW cL cB cS em σ ++ pl) sz)) 2 17 (va_A (zX q cM cH cW cL cB cS em σ ++ pl) sz) := by
  refine Met.ofW (cc := b_V_commitDraft) (maxL := 5) (ret := (some .int)) (by decide) rfl ?_
  intro p e s m args below meth c s₁ B hml hv
  obtain ⟨rfl, hsz, hP, hK, hD0, hN⟩ := hv
  have hx := B.exec
  have hb := B.bytes
  have hr := B.returns
  have hts : ∀ w ∈ zt, w.before ([.ref (q 0), .int k, .null, .null].toArray) s = true := fun w h => atoms_spec (ws := w_V_commitDraft) B.pre w (List.mem_cons_of_mem _ h)
  have hown : s.vm.findClass R_V = some m.cls := findClass_of_methodNamed B.named
  have hlocks := B.notSynchronized
  subst hsz
  have hD := hD0.self (sz := s.heap.size)
  generalize hAe : va_A (zX q cM cH cW cL cB cS em σ ++ pl) s.heap.size = A at hD ⊢
  have hA : ∀ q : Nat, s.heap.size ≤ q → A q := fun q h => by rw [← hAe]; exact Or.inr h
  have hS : va_S A s.heap s.heap [] := va_S.rf
  have hP : va_P D vwCl (zX q cM cH cW cL cB cS em σ ++ pl) s.heap := hP
  have hD : va_D A (zX q cM cH cW cL cB cS em σ ++ pl) := hD
  have hl := lv_entry ([.ref (q 0), .int k, .null, .null]) (n := 5) (Nat.le_of_ble_eq_true rfl)
  rw [lg_entry_eq]
  generalize (lg_sl ([.ref (q 0), .int k, .null, .null]) ++ List.replicate (5 - (lg_sl ([.ref (q 0), .int k, .null, .null])).length) Slot.unset).toArray = ls at hl ⊢
  have hl : lv_has ls 5 [(0, .ref (q 0)), (1, .int k), (2, .null), (3, .null)] := hl
  unfold f_V_commitDraft_nn at hres
  refine lv_aload_n hx hb d_V_commitDraft_0 rfl (lv_at hl 0 rfl) ?_
  refine va_get (D := D) (ci := 3) (v := .int σ.1) (C := R_V) (T := T_V) (N := 10) hx hb hts in_V hown hK hP (0) rfl rfl 1 (by decide) (hts _ k_137) (fun _ h9 => h9) rfl d_V_commitDraft_1 ?_
  refine lv_istore (lv' := [(4, .int σ.1), (0, .ref (q 0)), (1, .int k), (2, .null), (3, .null)]) hx hb d_V_commitDraft_4 hl (by decide) rfl (fun ls hl => ?_)
  refine lv_aload_n hx hb d_V_commitDraft_6 rfl (lv_at hl 1 rfl) ?_
  refine va_get (D := D) (ci := 3) (v := .ref (q 1)) (C := R_V) (T := T_V) (N := 10) hx hb hts in_V hown hK hP (0) rfl rfl 0 (by decide) (hts _ k_136) (fun _ h9 => h9) rfl d_V_commitDraft_7 ?_
  refine lv_iload hx hb d_V_commitDraft_10 (lv_at hl 0 rfl) ?_
  refine va_new (ci := 1) (fs := [.int 0, .int 0, .null, .null, .null, .long 0, .long 0]) (C := R_C) (T := T_C) (N := 7) hx hb hts in_C ty_C ok_C hown (hts _ k_46) (hts _ k_225) (hts _ k_35) hK hP hD hS hA rfl (fun j hj => by rcases (show j = 0 ∨ j = 1 ∨ j = 2 ∨ j = 3 ∨ j = 4 ∨ j = 5 ∨ j = 6 by omega) with rfl | rfl | rfl | rfl | rfl | rfl | rfl <;> rfl) (Nat.le_of_ble_eq_true rfl) (Nat.le_of_ble_eq_true rfl) d_V_commitDraft_12 (fun q12 H hP hD hS => ?_)
  have hP : va_P D vwCl ((zX q cM cH cW cL cB cS em σ ++ pl) ++ [(q12, .inr (1, [.int 0, .int 0, .null, .null, .null, .long 0, .long 0]))]) H := hP
  have hD : va_D A ((zX q cM cH cW cL cB cS em σ ++ pl) ++ [(q12, .inr (1, [.int 0, .int 0, .null, .null, .null, .long 0, .long 0]))]) := hD
  refine lv_dup hx hb d_V_commitDraft_15 rfl ?_
  refine lv_iload hx hb d_V_commitDraft_16 (lv_at hl 0 rfl) ?_
  refine lv_aload_nN hx hb d_V_commitDraft_18 rfl (lv_at hl 3 rfl) ?_
  refine lv_aload_nN hx hb d_V_commitDraft_19 rfl (lv_at hl 4 rfl) ?_
  refine lv_aload_n hx hb d_V_commitDraft_20 rfl (lv_at hl 1 rfl) ?_
  refine va_get (D := D) (ci := 3) (v := .ref (q 6)) (C := R_V) (T := T_V) (N := 10) hx hb hts in_V hown hK hP (0) rfl rfl 8 (by decide) (hts _ k_144) (fun _ h9 => h9) rfl d_V_commitDraft_21 ?_
  obtain ⟨v24, hc24, hres⟩ := zl_b (0, 0) hres
  have hRc : ([6] : List Nat).map (fun i => (zX q cM cH cW cL cB cS em σ ++ pl)[i]?) = ([(q 6, zcT σ.2.2.2.2.2.2.1)] : va_W).map some := (zcons rfl znil)
  refine zc_n (c0 := (q12, .inr (1, [.int 0, .int 0, .null, .null, .null, .long 0, .long 0]))) (c1 := fun u => (q12, zcC (v24.1, v24.2.1, v24.2.2.1, v24.2.2.2.1, u, v24.2.2.2.2.1, v24.2.2.2.2.2.1))) (w1b := fun u => [(u, zcT v24.2.2.2.2.2.2)]) (wro := [(q 6, zcT σ.2.2.2.2.2.2.1)]) (va_runI (As := [.int σ.1, .null, .null, .ref (q 6)]) (rest := [.ref q12, .int σ.1, .ref (q 1)]) ⟨hx, hb, hml, hown, hts⟩ (c_C_init_nnr l D [(cM, .object R_C), (cH, .int), (cW, .boolean), (cL, .int), (cB, .int), (cS, .object R_T)] _ q12 (q 6) σ.1 σ.2.2.2.2.2.2.1 v24 hc24) (cwI 4 hts g_C_init rfl rfl rfl (hts _ k_35) (hts _ k_226) (hts _ k_227) rfl hd_C_init ⟨Nat.le_of_ble_eq_true rfl, Nat.le_of_ble_eq_true rfl⟩) ⟨zrw_b _, zrw_n hP hD hK hN [6] hRc (by simp [va_nd] <;> omega) _⟩ rfl rfl hl.1 rfl (lv_room (Nat.le_of_ble_eq_true rfl)) d_V_commitDraft_24 ⟨Nat.le_of_ble_eq_true rfl, Nat.le_of_ble_eq_true rfl⟩) hP hD hS hA [6] hRc (fun _ => rfl) (fun u24 H locs hP hD hS => ?_)
  obtain ⟨qn, rfl, rfl⟩ : ∃ z : Nat × Nat, z.1 = q12 ∧ z.2 = u24 := ⟨(q12, u24), rfl, rfl⟩
  have hres := hres qn
  rw [List.append_assoc] at hP hD
  have hP : va_P D vwCl (zX q cM cH cW cL cB cS em σ ++ (pl ++ [(qn.1, zcC (v24.1, v24.2.1, v24.2.2.1, v24.2.2.2.1, qn.2, v24.2.2.2.2.1, v24.2.2.2.2.2.1)), (qn.2, zcT v24.2.2.2.2.2.2)])) H := hP
  have hD : va_D A (zX q cM cH cW cL cB cS em σ ++ (pl ++ [(qn.1, zcC (v24.1, v24.2.1, v24.2.2.1, v24.2.2.2.1, qn.2, v24.2.2.2.2.1, v24.2.2.2.2.2.1)), (qn.2, zcT v24.2.2.2.2.2.2)])) := hD
  by_cases ck_27 : zin σ.1 60
  · have hres := zi_p ck_27 hres
    refine va_astq hx hb hK hP hD hS 1 0 (15 + pl.length) 1 rfl rfl (zpl_get zl2) rfl ck_27 d_V_commitDraft_27 (fun H locs hP hD hS => ?_)
    have hP : va_P D vwCl ([(q 0, .inr (3, [.ref (q 1), .int σ.1, .ref (q 2), .ref (q 3), .ref (q 4), .int σ.2.1, .ref (q 5), .ref (q 7), .ref (q 6), .ref (q 9)])), (q 1, .inl (cM, 60, .inr (.inr (.inr (.inr (va_up σ.2.2.1 σ.1.toNatClampNeg (some qn.1))))))), (q 2, .inl (cH, 4, .inl σ.2.2.2.1)), (q 3, .inl (cW, 4, .inl σ.2.2.2.2.1)), (q 4, .inl (cL, 100, .inl σ.2.2.2.2.2.1)), (q 5, zcT em), (q 6, zcT σ.2.2.2.2.2.2.1), (q 7, .inr (2, [.ref (q 8)])), (q 8, .inl (cB, 16, .inl σ.2.2.2.2.2.2.2.1)), (q 9, .inl (cS, 5, .inr (.inr (.inr (.inr (zbs q)))))), (q 10, zcT σ.2.2.2.2.2.2.2.2.1), (q 11, zcT σ.2.2.2.2.2.2.2.2.2.1), (q 12, zcT σ.2.2.2.2.2.2.2.2.2.2.1), (q 13, zcT σ.2.2.2.2.2.2.2.2.2.2.2.1), (q 14, zcT σ.2.2.2.2.2.2.2.2.2.2.2.2)] ++ (pl ++ [(qn.1, zcC (v24.1, v24.2.1, v24.2.2.1, v24.2.2.2.1, qn.2, v24.2.2.2.2.1, v24.2.2.2.2.2.1)), (qn.2, zcT v24.2.2.2.2.2.2)])) H := hP
    have hD : va_D A ([(q 0, .inr (3, [.ref (q 1), .int σ.1, .ref (q 2), .ref (q 3), .ref (q 4), .int σ.2.1, .ref (q 5), .ref (q 7), .ref (q 6), .ref (q 9)])), (q 1, .inl (cM, 60, .inr (.inr (.inr (.inr (va_up σ.2.2.1 σ.1.toNatClampNeg (some qn.1))))))), (q 2, .inl (cH, 4, .inl σ.2.2.2.1)), (q 3, .inl (cW, 4, .inl σ.2.2.2.2.1)), (q 4, .inl (cL, 100, .inl σ.2.2.2.2.2.1)), (q 5, zcT em), (q 6, zcT σ.2.2.2.2.2.2.1), (q 7, .inr (2, [.ref (q 8)])), (q 8, .inl (cB, 16, .inl σ.2.2.2.2.2.2.2.1)), (q 9, .inl (cS, 5, .inr (.inr (.inr (.inr (zbs q)))))), (q 10, zcT σ.2.2.2.2.2.2.2.2.1), (q 11, zcT σ.2.2.2.2.2.2.2.2.2.1), (q 12, zcT σ.2.2.2.2.2.2.2.2.2.2.1), (q 13, zcT σ.2.2.2.2.2.2.2.2.2.2.2.1), (q 14, zcT σ.2.2.2.2.2.2.2.2.2.2.2.2)] ++ (pl ++ [(qn.1, zcC (v24.1, v24.2.1, v24.2.2.1, v24.2.2.2.1, qn.2, v24.2.2.2.2.1, v24.2.2.2.2.2.1)), (qn.2, zcT v24.2.2.2.2.2.2)])) := hD
    refine lv_aload_n hx hb d_V_commitDraft_28 rfl (lv_at hl 1 rfl) ?_
    refine lv_dup hx hb d_V_commitDraft_29 rfl ?_
    refine va_get (D := D) (ci := 3) (v := .int σ.1) (C := R_V) (T := T_V) (N := 10) hx hb hts in_V hown hK hP (0) rfl rfl 1 (by decide) (hts _ k_137) (fun _ h9 => h9) rfl d_V_commitDraft_30 ?_
    refine lv_iconst (v := 1) hx hb d_V_commitDraft_33 (by decide) ?_
    refine lv_iadd hx hb d_V_commitDraft_34 ?_
    refine va_put (D := D) (ci := 3) (v := .int (σ.1 + 1)) (ty := .int) (C := R_V) (T := T_V) (N := 10) hx hb hts in_V ty_V ok_V nm_V hown hK hP hD hS 0 rfl rfl 1 (by decide) (hts _ k_137) (fun _ h9 => h9) rfl (by decide +kernel) rfl rfl (Nat.le_of_ble_eq_true rfl) d_V_commitDraft_35 (fun H locs hP hD hS => ?_)
    have hP : va_P D vwCl ([(q 0, .inr (3, [.ref (q 1), .int (σ.1 + 1), .ref (q 2), .ref (q 3), .ref (q 4), .int σ.2.1, .ref (q 5), .ref (q 7), .ref (q 6), .ref (q 9)])), (q 1, .inl (cM, 60, .inr (.inr (.inr (.inr (va_up σ.2.2.1 σ.1.toNatClampNeg (some qn.1))))))), (q 2, .inl (cH, 4, .inl σ.2.2.2.1)), (q 3, .inl (cW, 4, .inl σ.2.2.2.2.1)), (q 4, .inl (cL, 100, .inl σ.2.2.2.2.2.1)), (q 5, zcT em), (q 6, zcT σ.2.2.2.2.2.2.1), (q 7, .inr (2, [.ref (q 8)])), (q 8, .inl (cB, 16, .inl σ.2.2.2.2.2.2.2.1)), (q 9, .inl (cS, 5, .inr (.inr (.inr (.inr (zbs q)))))), (q 10, zcT σ.2.2.2.2.2.2.2.2.1), (q 11, zcT σ.2.2.2.2.2.2.2.2.2.1), (q 12, zcT σ.2.2.2.2.2.2.2.2.2.2.1), (q 13, zcT σ.2.2.2.2.2.2.2.2.2.2.2.1), (q 14, zcT σ.2.2.2.2.2.2.2.2.2.2.2.2)] ++ (pl ++ [(qn.1, zcC (v24.1, v24.2.1, v24.2.2.1, v24.2.2.2.1, qn.2, v24.2.2.2.2.1, v24.2.2.2.2.2.1)), (qn.2, zcT v24.2.2.2.2.2.2)])) H := hP
    have hD : va_D A ([(q 0, .inr (3, [.ref (q 1), .int (σ.1 + 1), .ref (q 2), .ref (q 3), .ref (q 4), .int σ.2.1, .ref (q 5), .ref (q 7), .ref (q 6), .ref (q 9)])), (q 1, .inl (cM, 60, .inr (.inr (.inr (.inr (va_up σ.2.2.1 σ.1.toNatClampNeg (some qn.1))))))), (q 2, .inl (cH, 4, .inl σ.2.2.2.1)), (q 3, .inl (cW, 4, .inl σ.2.2.2.2.1)), (q 4, .inl (cL, 100, .inl σ.2.2.2.2.2.1)), (q 5, zcT em), (q 6, zcT σ.2.2.2.2.2.2.1), (q 7, .inr (2, [.ref (q 8)])), (q 8, .inl (cB, 16, .inl σ.2.2.2.2.2.2.2.1)), (q 9, .inl (cS, 5, .inr (.inr (.inr (.inr (zbs q)))))), (q 10, zcT σ.2.2.2.2.2.2.2.2.1), (q 11, zcT σ.2.2.2.2.2.2.2.2.2.1), (q 12, zcT σ.2.2.2.2.2.2.2.2.2.2.1), (q 13, zcT σ.2.2.2.2.2.2.2.2.2.2.2.1), (q 14, zcT σ.2.2.2.2.2.2.2.2.2.2.2.2)] ++ (pl ++ [(qn.1, zcC (v24.1, v24.2.1, v24.2.2.1, v24.2.2.2.1, qn.2, v24.2.2.2.2.1, v24.2.2.2.2.2.1)), (qn.2, zcT v24.2.2.2.2.2.2)])) := hD
    refine lv_aload_n hx hb d_V_commitDraft_38 rfl (lv_at hl 1 rfl) ?_
    refine lv_iload_n hx hb d_V_commitDraft_39 rfl (lv_at hl 2 rfl) ?_
    refine lv_iload hx hb d_V_commitDraft_40 (lv_at hl 0 rfl) ?_
    obtain ⟨v42, hc42, hres⟩ := zo_b hres
    refine zw_v (ws' := zX q cM cH cW cL cB cS em v42 ++ (pl ++ [(qn.1, zcC (v24.1, v24.2.1, v24.2.2.1, v24.2.2.2.1, qn.2, v24.2.2.2.2.1, v24.2.2.2.2.2.1)), (qn.2, zcT v24.2.2.2.2.2.2)])) (va_runV (As := [.int k, .int σ.1]) (rest := []) ⟨hx, hb, hml, hown, hts⟩ (c_V_moveHead l D [(cM, .object R_C), (cH, .int), (cW, .boolean), (cL, .int), (cB, .int), (cS, .object R_T)] _ q cM cH cW cL cB cS em (pl ++ [(qn.1, zcC (v24.1, v24.2.1, v24.2.2.1, v24.2.2.2.1, qn.2, v24.2.2.2.2.1, v24.2.2.2.2.2.1)), (qn.2, zcT v24.2.2.2.2.2.2)]) cm tm (zpool_app hpl) ((σ.1 + 1), σ.2.1, (va_up σ.2.2.1 σ.1.toNatClampNeg (some qn.1)), σ.2.2.2.1, σ.2.2.2.2.1, σ.2.2.2.2.2.1, σ.2.2.2.2.2.2.1, σ.2.2.2.2.2.2.2.1, σ.2.2.2.2.2.2.2.2.1, σ.2.2.2.2.2.2.2.2.2.1, σ.2.2.2.2.2.2.2.2.2.2.1, σ.2.2.2.2.2.2.2.2.2.2.2.1, σ.2.2.2.2.2.2.2.2.2.2.2.2) k σ.1 v42 hc42) (cwV 2 hts (zg_V k_279 k_281 k_3 k_29 g_V_moveHead) rfl rfl rfl ⟨rfl, hd_V_moveHead⟩ ⟨Nat.le_of_ble_eq_true rfl, Nat.le_of_ble_eq_true rfl⟩) ⟨zrw_b _, va_recv hK hP (q0 := 0) rfl rfl, zrw_w hP hD hK hN _⟩ rfl rfl hl.1 rfl (lv_room (Nat.le_of_ble_eq_true rfl)) d_V_commitDraft_42 ⟨Nat.le_of_ble_eq_true rfl, Nat.le_of_ble_eq_true rfl⟩) hD hS hA (fun H locs hP hD hS => ?_)
    have hP : va_P D vwCl (zX q cM cH cW cL cB cS em v42 ++ (pl ++ [(qn.1, zcC (v24.1, v24.2.1, v24.2.2.1, v24.2.2.2.1, qn.2, v24.2.2.2.2.1, v24.2.2.2.2.2.1)), (qn.2, zcT v24.2.2.2.2.2.2)])) H := hP
    have hD : va_D A (zX q cM cH cW cL cB cS em v42 ++ (pl ++ [(qn.1, zcC (v24.1, v24.2.1, v24.2.2.1, v24.2.2.2.1, qn.2, v24.2.2.2.2.1, v24.2.2.2.2.2.1)), (qn.2, zcT v24.2.2.2.2.2.2)])) := hD
    refine lv_iload hx hb d_V_commitDraft_45 (lv_at hl 0 rfl) ?_
    have e9 := Option.some.inj (hres)
    refine W.widen (k := 2) (n := 17) (by omega) (by omega) ?_
    exact W.iret (v := σ.1) hx hb hr (fun t ht hW => ⟨⟨_, qn, rfl, congrArg Prod.fst e9, by show va_P D vwCl (zX q cM cH cW cL cB cS em (v qn).2.1 ++ zpn pl qn (v qn).2.2) t.heap; rw [ht, ← e9]; exact hP, va_K.moved hW.alike hK, by show va_D A (zX q cM cH cW cL cB cS em (v qn).2.1 ++ zpn pl qn (v qn).2.2); rw [← e9]; exact hD⟩, hS.F ht⟩) hS.2.2 d_V_commitDraft_47
  · exact absurd (zi_n ck_27 hres) (by simp)
abbrev qd_V_commitDraft_rn (D : va_G) (tys : List (ClassId × FieldType)) (q : Nat → Nat) (cM : ClassId) (cH : ClassId) (cW : ClassId) (cL : ClassId) (cB : ClassId) (cS : ClassId) (em : TreeV) (pl : va_W) (cm : Nat → Option ComV) (tm : Nat → Option TreeV) (σ : VSt) (k : Int32) (h1 : Nat) (v : Nat × Nat → Int32 × VSt × (Option (ComV × TreeV))) (A : Nat → Prop) : Array Value → State → Outcome → State → Prop := va_Qi (fun (r : Int32) (u : Nat × Nat) => r = (v u).1) (fun u t => zwd D [(cM, .object R_C), (cH, .int), (cW, .boolean), (cL, .int), (cB, .int), (cS, .object R_T)] (A) (zX q cM cH cW cL cB cS em (v u).2.1 ++ zpn pl u (v u).2.2) t) (A)

def f_V_commitDraft_rn (qn : Nat × Nat) (em : TreeV) (cm : Nat → Option ComV) (tm : Nat → Option TreeV) (σ : VSt) (k : Int32) (h1 : Nat) : Option (Int32 × VSt × (Option (ComV × TreeV))) :=
  Option.bind (cm h1) (fun o_24 =>
    Option.bind (f_C_init_rnr σ.1 h1 o_24 σ.2.2.2.2.2.2.1) (fun v24 =>
      if zin σ.1 60 then
        Option.bind (f_V_moveHead em cm tm ((σ.1 + 1), σ.2.1, (va_up σ.2.2.1 σ.1.toNatClampNeg (some qn.1)), σ.2.2.2.1, σ.2.2.2.2.1, σ.2.2.2.2.2.1, σ.2.2.2.2.2.2.1, σ.2.2.2.2.2.2.2.1, σ.2.2.2.2.2.2.2.2.1, σ.2.2.2.2.2.2.2.2.2.1, σ.2.2.2.2.2.2.2.2.2.2.1, σ.2.2.2.2.2.2.2.2.2.2.2.1, σ.2.2.2.2.2.2.2.2.2.2.2.2) k σ.1) (fun v42 =>
          some (σ.1, v42, some ((v24.1, v24.2.1, v24.2.2.1, v24.2.2.2.1, qn.2, v24.2.2.2.2.1, v24.2.2.2.2.2.1), v24.2.2.2.2.2.2)))
      else
        none))
set_option maxHeartbeats 4000000 in
set_option maxRecDepth 100000 in
theorem c_V_commitDraft_rn (l : Launch) (D : va_G) (tys : List (ClassId × FieldType)) (sz : Nat) (q : Nat → Nat) (cM : ClassId) (cH : ClassId) (cW : ClassId) (cL : ClassId) (cB : ClassId) (cS : ClassId) (em : TreeV) (pl : va_W) (cm : Nat → Option ComV) (tm : Nat → Option TreeV) (hpl : zpool pl cm tm) (σ : VSt) (k : Int32) (h1 : Nat) (v : Nat × Nat → Int32 × VSt × (Option (ComV × TreeV))) (hres : ∀ qn : Nat × Nat, f_V_commitDraft_rn qn em cm tm σ k h1 = some (v qn)) : Met l y_V_commitDraft w_V_commitDraft ({ frames := 3, cells := 2, slots := 17, locals := 74 } : Room) (va_Pc ([.ref (q 0), .int k, .ref h1, .null]) (zrw D [(cM, .object R_C), (cH, .int), (cW, .boolean), (cL, .int), (cB, .int), (cS, .object R_T)] sz (zX q cM cH cW cL cB cS em σ ++ pl))) (qd_V_commitDraft_rn D tys q cM cH cW cL cB cS em pl cm tm σ k h1 v (va_A (zX q cM cH cW cL cB cS em σ ++ pl) sz)) 2 17 (va_A (zX q cM cH cW cL cB cS em σ ++ pl) sz) := by
  refine Met.ofW (cc := b_V_commitDraft) (maxL := 5) (ret := (some .int)) (by decide) rfl ?_
  intro p e s m args below meth c s₁ B hml hv
  obtain ⟨rfl, hsz, hP, hK, hD0, hN⟩ := hv
  have hx := B.exec
  have hb := B.bytes
  have hr := B.returns
  have hts : ∀ w ∈ zt, w.before ([.ref (q 0), .int k, .ref h1, .null].toArray) s = true := fun w h => atoms_spec (ws := w_V_commitDraft) B.pre w (List.mem_cons_of_mem _ h)
  have hown : s.vm.findClass R_V = some m.cls := findClass_of_methodNamed B.named
  have hlocks := B.notSynchronized
  subst hsz
  have hD := hD0.self (sz := s.heap.size)
  generalize hAe : va_A (zX q cM cH cW cL cB cS em σ ++ pl) s.heap.size = A at hD ⊢
  have hA : ∀ q : Nat, s.heap.size ≤ q → A q := fun q h => by rw [← hAe]; exact Or.inr h
  have hS : va_S A s.heap s.heap [] := va_S.rf
  have hP : va_P D vwCl (zX q cM cH cW cL cB cS em σ ++ pl) s.heap := hP
  have hD : va_D A (zX q cM cH cW cL cB cS em σ ++ pl) := hD
  have hl := lv_entry ([.ref (q 0), .int k, .ref h1, .null]) (n := 5) (Nat.le_of_ble_eq_true rfl)
  rw [lg_entry_eq]
  generalize (lg_sl ([.ref (q 0), .int k, .ref h1, .null]) ++ List.replicate (5 - (lg_sl ([.ref (q 0), .int k, .ref h1, .null])).length) Slot.unset).toArray = ls at hl ⊢
  have hl : lv_has ls 5 [(0, .ref (q 0)), (1, .int k), (2, .ref h1), (3, .null)] := hl
  unfold f_V_commitDraft_rn at hres
  refine lv_aload_n hx hb d_V_commitDraft_0 rfl (lv_at hl 0 rfl) ?_
  refine va_get (D := D) (ci := 3) (v := .int σ.1) (C := R_V) (T := T_V) (N := 10) hx hb hts in_V hown hK hP (0) rfl rfl 1 (by decide) (hts _ k_137) (fun _ h9 => h9) rfl d_V_commitDraft_1 ?_
  refine lv_istore (lv' := [(4, .int σ.1), (0, .ref (q 0)), (1, .int k), (2, .ref h1), (3, .null)]) hx hb d_V_commitDraft_4 hl (by decide) rfl (fun ls hl => ?_)
  refine lv_aload_n hx hb d_V_commitDraft_6 rfl (lv_at hl 1 rfl) ?_
  refine va_get (D := D) (ci := 3) (v := .ref (q 1)) (C := R_V) (T := T_V) (N := 10) hx hb hts in_V hown hK hP (0) rfl rfl 0 (by decide) (hts _ k_136) (fun _ h9 => h9) rfl d_V_commitDraft_7 ?_
  refine lv_iload hx hb d_V_commitDraft_10 (lv_at hl 0 rfl) ?_
  refine va_new (ci := 1) (fs := [.int 0, .int 0, .null, .null, .null, .long 0, .long 0]) (C := R_C) (T := T_C) (N := 7) hx hb hts in_C ty_C ok_C hown (hts _ k_46) (hts _ k_225) (hts _ k_35) hK hP hD hS hA rfl (fun j hj => by rcases (show j = 0 ∨ j = 1 ∨ j = 2 ∨ j = 3 ∨ j = 4 ∨ j = 5 ∨ j = 6 by omega) with rfl | rfl | rfl | rfl | rfl | rfl | rfl <;> rfl) (Nat.le_of_ble_eq_true rfl) (Nat.le_of_ble_eq_true rfl) d_V_commitDraft_12 (fun q12 H hP hD hS => ?_)
  have hP : va_P D vwCl ((zX q cM cH cW cL cB cS em σ ++ pl) ++ [(q12, .inr (1, [.int 0, .int 0, .null, .null, .null, .long 0, .long 0]))]) H := hP
  have hD : va_D A ((zX q cM cH cW cL cB cS em σ ++ pl) ++ [(q12, .inr (1, [.int 0, .int 0, .null, .null, .null, .long 0, .long 0]))]) := hD
  refine lv_dup hx hb d_V_commitDraft_15 rfl ?_
  refine lv_iload hx hb d_V_commitDraft_16 (lv_at hl 0 rfl) ?_
  refine lv_aload_n hx hb d_V_commitDraft_18 rfl (lv_at hl 3 rfl) ?_
  refine lv_aload_nN hx hb d_V_commitDraft_19 rfl (lv_at hl 4 rfl) ?_
  refine lv_aload_n hx hb d_V_commitDraft_20 rfl (lv_at hl 1 rfl) ?_
  refine va_get (D := D) (ci := 3) (v := .ref (q 6)) (C := R_V) (T := T_V) (N := 10) hx hb hts in_V hown hK hP (0) rfl rfl 8 (by decide) (hts _ k_144) (fun _ h9 => h9) rfl d_V_commitDraft_21 ?_
  obtain ⟨o_24, ho_24, hres⟩ := zl_b (0, 0) hres
  obtain ⟨ko_24, hko_24⟩ := hpl.1 _ _ ho_24
  obtain ⟨v24, hc24, hres⟩ := zl_b (0, 0) hres
  have hRc : ([6, 15 + ko_24] : List Nat).map (fun i => (zX q cM cH cW cL cB cS em σ ++ pl)[i]?) = ([(q 6, zcT σ.2.2.2.2.2.2.1), (h1, zcC o_24)] : va_W).map some := (zcons rfl (zcons (zpl_get hko_24) znil))
  refine zc_n (c0 := (q12, .inr (1, [.int 0, .int 0, .null, .null, .null, .long 0, .long 0]))) (c1 := fun u => (q12, zcC (v24.1, v24.2.1, v24.2.2.1, v24.2.2.2.1, u, v24.2.2.2.2.1, v24.2.2.2.2.2.1))) (w1b := fun u => [(u, zcT v24.2.2.2.2.2.2)]) (wro := [(q 6, zcT σ.2.2.2.2.2.2.1), (h1, zcC o_24)]) (va_runI (As := [.int σ.1, .ref h1, .null, .ref (q 6)]) (rest := [.ref q12, .int σ.1, .ref (q 1)]) ⟨hx, hb, hml, hown, hts⟩ (c_C_init_rnr l D [(cM, .object R_C), (cH, .int), (cW, .boolean), (cL, .int), (cB, .int), (cS, .object R_T)] _ q12 (q 6) σ.1 h1 o_24 σ.2.2.2.2.2.2.1 v24 hc24) (cwI 4 hts g_C_init rfl rfl rfl (hts _ k_35) (hts _ k_226) (hts _ k_227) rfl hd_C_init ⟨Nat.le_of_ble_eq_true rfl, Nat.le_of_ble_eq_true rfl⟩) ⟨zrw_b _, zrw_n hP hD hK hN [6, 15 + ko_24] hRc (by simp [va_nd] <;> omega) _⟩ rfl rfl hl.1 rfl (lv_room (Nat.le_of_ble_eq_true rfl)) d_V_commitDraft_24 ⟨Nat.le_of_ble_eq_true rfl, Nat.le_of_ble_eq_true rfl⟩) hP hD hS hA [6, 15 + ko_24] hRc (fun _ => rfl) (fun u24 H locs hP hD hS => ?_)
  obtain ⟨qn, rfl, rfl⟩ : ∃ z : Nat × Nat, z.1 = q12 ∧ z.2 = u24 := ⟨(q12, u24), rfl, rfl⟩
  have hres := hres qn
  rw [List.append_assoc] at hP hD
  have hP : va_P D vwCl (zX q cM cH cW cL cB cS em σ ++ (pl ++ [(qn.1, zcC (v24.1, v24.2.1, v24.2.2.1, v24.2.2.2.1, qn.2, v24.2.2.2.2.1, v24.2.2.2.2.2.1)), (qn.2, zcT v24.2.2.2.2.2.2)])) H := hP
  have hD : va_D A (zX q cM cH cW cL cB cS em σ ++ (pl ++ [(qn.1, zcC (v24.1, v24.2.1, v24.2.2.1, v24.2.2.2.1, qn.2, v24.2.2.2.2.1, v24.2.2.2.2.2.1)), (qn.2, zcT v24.2.2.2.2.2.2)])) := hD
  by_cases ck_27 : zin σ.1 60
  · have hres := zi_p ck_27 hres
    refine va_astq hx hb hK hP hD hS 1 0 (15 + pl.length) 1 rfl rfl (zpl_get zl2) rfl ck_27 d_V_commitDraft_27 (fun H locs hP hD hS => ?_)
    have hP : va_P D vwCl ([(q 0, .inr (3, [.ref (q 1), .int σ.1, .ref (q 2), .ref (q 3), .ref (q 4), .int σ.2.1, .ref (q 5), .ref (q 7), .ref (q 6), .ref (q 9)])), (q 1, .inl (cM, 60, .inr (.inr (.inr (.inr (va_up σ.2.2.1 σ.1.toNatClampNeg (some qn.1))))))), (q 2, .inl (cH, 4, .inl σ.2.2.2.1)), (q 3, .inl (cW, 4, .inl σ.2.2.2.2.1)), (q 4, .inl (cL, 100, .inl σ.2.2.2.2.2.1)), (q 5, zcT em), (q 6, zcT σ.2.2.2.2.2.2.1), (q 7, .inr (2, [.ref (q 8)])), (q 8, .inl (cB, 16, .inl σ.2.2.2.2.2.2.2.1)), (q 9, .inl (cS, 5, .inr (.inr (.inr (.inr (zbs q)))))), (q 10, zcT σ.2.2.2.2.2.2.2.2.1), (q 11, zcT σ.2.2.2.2.2.2.2.2.2.1), (q 12, zcT σ.2.2.2.2.2.2.2.2.2.2.1), (q 13, zcT σ.2.2.2.2.2.2.2.2.2.2.2.1), (q 14, zcT σ.2.2.2.2.2.2.2.2.2.2.2.2)] ++ (pl ++ [(qn.1, zcC (v24.1, v24.2.1, v24.2.2.1, v24.2.2.2.1, qn.2, v24.2.2.2.2.1, v24.2.2.2.2.2.1)), (qn.2, zcT v24.2.2.2.2.2.2)])) H := hP
    have hD : va_D A ([(q 0, .inr (3, [.ref (q 1), .int σ.1, .ref (q 2), .ref (q 3), .ref (q 4), .int σ.2.1, .ref (q 5), .ref (q 7), .ref (q 6), .ref (q 9)])), (q 1, .inl (cM, 60, .inr (.inr (.inr (.inr (va_up σ.2.2.1 σ.1.toNatClampNeg (some qn.1))))))), (q 2, .inl (cH, 4, .inl σ.2.2.2.1)), (q 3, .inl (cW, 4, .inl σ.2.2.2.2.1)), (q 4, .inl (cL, 100, .inl σ.2.2.2.2.2.1)), (q 5, zcT em), (q 6, zcT σ.2.2.2.2.2.2.1), (q 7, .inr (2, [.ref (q 8)])), (q 8, .inl (cB, 16, .inl σ.2.2.2.2.2.2.2.1)), (q 9, .inl (cS, 5, .inr (.inr (.inr (.inr (zbs q)))))), (q 10, zcT σ.2.2.2.2.2.2.2.2.1), (q 11, zcT σ.2.2.2.2.2.2.2.2.2.1), (q 12, zcT σ.2.2.2.2.2.2.2.2.2.2.1), (q 13, zcT σ.2.2.2.2.2.2.2.2.2.2.2.1), (q 14, zcT σ.2.2.2.2.2.2.2.2.2.2.2.2)] ++ (pl ++ [(qn.1, zcC (v24.1, v24.2.1, v24.2.2.1, v24.2.2.2.1, qn.2, v24.2.2.2.2.1, v24.2.2.2.2.2.1)), (qn.2, zcT v24.2.2.2.2.2.2)])) := hD
    refine lv_aload_n hx hb d_V_commitDraft_28 rfl (lv_at hl 1 rfl) ?_
    refine lv_dup hx hb d_V_commitDraft_29 rfl ?_
    refine va_get (D := D) (ci := 3) (v := .int σ.1) (C := R_V) (T := T_V) (N := 10) hx hb hts in_V hown hK hP (0) rfl rfl 1 (by decide) (hts _ k_137) (fun _ h9 => h9) rfl d_V_commitDraft_30 ?_
    refine lv_iconst (v := 1) hx hb d_V_commitDraft_33 (by decide) ?_
    refine lv_iadd hx hb d_V_commitDraft_34 ?_
    refine va_put (D := D) (ci := 3) (v := .int (σ.1 + 1)) (ty := .int) (C := R_V) (T := T_V) (N := 10) hx hb hts in_V ty_V ok_V nm_V hown hK hP hD hS 0 rfl rfl 1 (by decide) (hts _ k_137) (fun _ h9 => h9) rfl (by decide +kernel) rfl rfl (Nat.le_of_ble_eq_true rfl) d_V_commitDraft_35 (fun H locs hP hD hS => ?_)
    have hP : va_P D vwCl ([(q 0, .inr (3, [.ref (q 1), .int (σ.1 + 1), .ref (q 2), .ref (q 3), .ref (q 4), .int σ.2.1, .ref (q 5), .ref (q 7), .ref (q 6), .ref (q 9)])), (q 1, .inl (cM, 60, .inr (.inr (.inr (.inr (va_up σ.2.2.1 σ.1.toNatClampNeg (some qn.1))))))), (q 2, .inl (cH, 4, .inl σ.2.2.2.1)), (q 3, .inl (cW, 4, .inl σ.2.2.2.2.1)), (q 4, .inl (cL, 100, .inl σ.2.2.2.2.2.1)), (q 5, zcT em), (q 6, zcT σ.2.2.2.2.2.2.1), (q 7, .inr (2, [.ref (q 8)])), (q 8, .inl (cB, 16, .inl σ.2.2.2.2.2.2.2.1)), (q 9, .inl (cS, 5, .inr (.inr (.inr (.inr (zbs q)))))), (q 10, zcT σ.2.2.2.2.2.2.2.2.1), (q 11, zcT σ.2.2.2.2.2.2.2.2.2.1), (q 12, zcT σ.2.2.2.2.2.2.2.2.2.2.1), (q 13, zcT σ.2.2.2.2.2.2.2.2.2.2.2.1), (q 14, zcT σ.2.2.2.2.2.2.2.2.2.2.2.2)] ++ (pl ++ [(qn.1, zcC (v24.1, v24.2.1, v24.2.2.1, v24.2.2.2.1, qn.2, v24.2.2.2.2.1, v24.2.2.2.2.2.1)), (qn.2, zcT v24.2.2.2.2.2.2)])) H := hP
    have hD : va_D A ([(q 0, .inr (3, [.ref (q 1), .int (σ.1 + 1), .ref (q 2), .ref (q 3), .ref (q 4), .int σ.2.1, .ref (q 5), .ref (q 7), .ref (q 6), .ref (q 9)])), (q 1, .inl (cM, 60, .inr (.inr (.inr (.inr (va_up σ.2.2.1 σ.1.toNatClampNeg (some qn.1))))))), (q 2, .inl (cH, 4, .inl σ.2.2.2.1)), (q 3, .inl (cW, 4, .inl σ.2.2.2.2.1)), (q 4, .inl (cL, 100, .inl σ.2.2.2.2.2.1)), (q 5, zcT em), (q 6, zcT σ.2.2.2.2.2.2.1), (q 7, .inr (2, [.ref (q 8)])), (q 8, .inl (cB, 16, .inl σ.2.2.2.2.2.2.2.1)), (q 9, .inl (cS, 5, .inr (.inr (.inr (.inr (zbs q)))))), (q 10, zcT σ.2.2.2.2.2.2.2.2.1), (q 11, zcT σ.2.2.2.2.2.2.2.2.2.1), (q 12, zcT σ.2.2.2.2.2.2.2.2.2.2.1), (q 13, zcT σ.2.2.2.2.2.2.2.2.2.2.2.1), (q 14, zcT σ.2.2.2.2.2.2.2.2.2.2.2.2)] ++ (pl ++ [(qn.1, zcC (v24.1, v24.2.1, v24.2.2.1, v24.2.2.2.1, qn.2, v24.2.2.2.2.1, v24.2.2.2.2.2.1)), (qn.2, zcT v24.2.2.2.2.2.2)])) := hD
    refine lv_aload_n hx hb d_V_commitDraft_38 rfl (lv_at hl 1 rfl) ?_
    refine lv_iload_n hx hb d_V_commitDraft_39 rfl (lv_at hl 2 rfl) ?_
    refine lv_iload hx hb d_V_commitDraft_40 (lv_at hl 0 rfl) ?_
    obtain ⟨v42, hc42, hres⟩ := zo_b hres
    refine zw_v (ws' := zX q cM cH cW cL cB cS em v42 ++ (pl ++ [(qn.1, zcC (v24.1, v24.2.1, v24.2.2.1, v24.2.2.2.1, qn.2, v24.2.2.2.2.1, v24.2.2.2.2.2.1)), (qn.2, zcT v24.2.2.2.2.2.2)])) (va_runV (As := [.int k, .int σ.1]) (rest := []) ⟨hx, hb, hml, hown, hts⟩ (c_V_moveHead l D [(cM, .object R_C), (cH, .int), (cW, .boolean), (cL, .int), (cB, .int), (cS, .object R_T)] _ q cM cH cW cL cB cS em (pl ++ [(qn.1, zcC (v24.1, v24.2.1, v24.2.2.1, v24.2.2.2.1, qn.2, v24.2.2.2.2.1, v24.2.2.2.2.2.1)), (qn.2, zcT v24.2.2.2.2.2.2)]) cm tm (zpool_app hpl) ((σ.1 + 1), σ.2.1, (va_up σ.2.2.1 σ.1.toNatClampNeg (some qn.1)), σ.2.2.2.1, σ.2.2.2.2.1, σ.2.2.2.2.2.1, σ.2.2.2.2.2.2.1, σ.2.2.2.2.2.2.2.1, σ.2.2.2.2.2.2.2.2.1, σ.2.2.2.2.2.2.2.2.2.1, σ.2.2.2.2.2.2.2.2.2.2.1, σ.2.2.2.2.2.2.2.2.2.2.2.1, σ.2.2.2.2.2.2.2.2.2.2.2.2) k σ.1 v42 hc42) (cwV 2 hts (zg_V k_279 k_281 k_3 k_29 g_V_moveHead) rfl rfl rfl ⟨rfl, hd_V_moveHead⟩ ⟨Nat.le_of_ble_eq_true rfl, Nat.le_of_ble_eq_true rfl⟩) ⟨zrw_b _, va_recv hK hP (q0 := 0) rfl rfl, zrw_w hP hD hK hN _⟩ rfl rfl hl.1 rfl (lv_room (Nat.le_of_ble_eq_true rfl)) d_V_commitDraft_42 ⟨Nat.le_of_ble_eq_true rfl, Nat.le_of_ble_eq_true rfl⟩) hD hS hA (fun H locs hP hD hS => ?_)
    have hP : va_P D vwCl (zX q cM cH cW cL cB cS em v42 ++ (pl ++ [(qn.1, zcC (v24.1, v24.2.1, v24.2.2.1, v24.2.2.2.1, qn.2, v24.2.2.2.2.1, v24.2.2.2.2.2.1)), (qn.2, zcT v24.2.2.2.2.2.2)])) H := hP
    have hD : va_D A (zX q cM cH cW cL cB cS em v42 ++ (pl ++ [(qn.1, zcC (v24.1, v24.2.1, v24.2.2.1, v24.2.2.2.1, qn.2, v24.2.2.2.2.1, v24.2.2.2.2.2.1)), (qn.2, zcT v24.2.2.2.2.2.2)])) := hD
    refine lv_iload hx hb d_V_commitDraft_45 (lv_at hl 0 rfl) ?_
    have e9 := Option.some.inj (hres)
    refine W.widen (k := 2) (n := 17) (by omega) (by omega) ?_
    exact W.iret (v := σ.1) hx hb hr (fun t ht hW => ⟨⟨_, qn, rfl, congrArg Prod.fst e9, by show va_P D vwCl (zX q cM cH cW cL cB cS em (v qn).2.1 ++ zpn pl qn (v qn).2.2) t.heap; rw [ht, ← e9]; exact hP, va_K.moved hW.alike hK, by show va_D A (zX q cM cH cW cL cB cS em (v qn).2.1 ++ zpn pl qn (v qn).2.2); rw [← e9]; exact hD⟩, hS.F ht⟩) hS.2.2 d_V_commitDraft_47
  · exact absurd (zi_n ck_27 hres) (by simp)
abbrev qd_V_commitDraft_rr (D : va_G) (tys : List (ClassId × FieldType)) (q : Nat → Nat) (cM : ClassId) (cH : ClassId) (cW : ClassId) (cL : ClassId) (cB : ClassId) (cS : ClassId) (em : TreeV) (pl : va_W) (cm : Nat → Option ComV) (tm : Nat → Option TreeV) (σ : VSt) (k : Int32) (h1 : Nat) (h2 : Nat) (v : Nat × Nat → Int32 × VSt × (Option (ComV × TreeV))) (A : Nat → Prop) : Array Value → State → Outcome → State → Prop := va_Qi (fun (r : Int32) (u : Nat × Nat) => r = (v u).1) (fun u t => zwd D [(cM, .object R_C), (cH, .int), (cW, .boolean), (cL, .int), (cB, .int), (cS, .object R_T)] (A) (zX q cM cH cW cL cB cS em (v u).2.1 ++ zpn pl u (v u).2.2) t) (A)

def f_V_commitDraft_rr (qn : Nat × Nat) (em : TreeV) (cm : Nat → Option ComV) (tm : Nat → Option TreeV) (σ : VSt) (k : Int32) (h1 : Nat) (h2 : Nat) : Option (Int32 × VSt × (Option (ComV × TreeV))) :=
  Option.bind (cm h1) (fun o_24 =>
    Option.bind (cm h2) (fun o_24' =>
      if ¬ h1 = h2 then
        Option.bind (f_C_init_rrr σ.1 h1 h2 o_24 o_24' σ.2.2.2.2.2.2.1) (fun v24 =>
          if zin σ.1 60 then
            Option.bind (f_V_moveHead em cm tm ((σ.1 + 1), σ.2.1, (va_up σ.2.2.1 σ.1.toNatClampNeg (some qn.1)), σ.2.2.2.1, σ.2.2.2.2.1, σ.2.2.2.2.2.1, σ.2.2.2.2.2.2.1, σ.2.2.2.2.2.2.2.1, σ.2.2.2.2.2.2.2.2.1, σ.2.2.2.2.2.2.2.2.2.1, σ.2.2.2.2.2.2.2.2.2.2.1, σ.2.2.2.2.2.2.2.2.2.2.2.1, σ.2.2.2.2.2.2.2.2.2.2.2.2) k σ.1) (fun v42 =>
              some (σ.1, v42, some ((v24.1, v24.2.1, v24.2.2.1, v24.2.2.2.1, qn.2, v24.2.2.2.2.1, v24.2.2.2.2.2.1), v24.2.2.2.2.2.2)))
          else
            none)
      else
        none))
set_option maxHeartbeats 4000000 in
set_option maxRecDepth 100000 in
theorem c_V_commitDraft_rr (l : Launch) (D : va_G) (tys : List (ClassId × FieldType)) (sz : Nat) (q : Nat → Nat) (cM : ClassId) (cH : ClassId) (cW : ClassId) (cL : ClassId) (cB : ClassId) (cS : ClassId) (em : TreeV) (pl : va_W) (cm : Nat → Option ComV) (tm : Nat → Option TreeV) (hpl : zpool pl cm tm) (σ : VSt) (k : Int32) (h1 : Nat) (h2 : Nat) (v : Nat × Nat → Int32 × VSt × (Option (ComV × TreeV))) (hres : ∀ qn : Nat × Nat, f_V_commitDraft_rr qn em cm tm σ k h1 h2 = some (v qn)) : Met l y_V_commitDraft w_V_commitDraft ({ frames := 3, cells := 2, slots := 17, locals := 74 } : Room) (va_Pc ([.ref (q 0), .int k, .ref h1, .ref h2]) (zrw D [(cM, .object R_C), (cH, .int), (cW, .boolean), (cL, .int), (cB, .int), (cS, .object R_T)] sz (zX q cM cH cW cL cB cS em σ ++ pl))) (qd_V_commitDraft_rr D tys q cM cH cW cL cB cS em pl cm tm σ k h1 h2 v (va_A (zX q cM cH cW cL cB cS em σ ++ pl) sz)) 2 17 (va_A (zX q cM cH cW cL cB cS em σ ++ pl) sz) := by
  refine Met.ofW (cc := b_V_commitDraft) (maxL := 5) (ret := (some .int)) (by decide) rfl ?_
  intro p e s m args below meth c s₁ B hml hv
  obtain ⟨rfl, hsz, hP, hK, hD0, hN⟩ := hv
  have hx := B.exec
  have hb := B.bytes
  have hr := B.returns
  have hts : ∀ w ∈ zt, w.before ([.ref (q 0), .int k, .ref h1, .ref h2].toArray) s = true := fun w h => atoms_spec (ws := w_V_commitDraft) B.pre w (List.mem_cons_of_mem _ h)
  have hown : s.vm.findClass R_V = some m.cls := findClass_of_methodNamed B.named
  have hlocks := B.notSynchronized
  subst hsz
  have hD := hD0.self (sz := s.heap.size)
  generalize hAe : va_A (zX q cM cH cW cL cB cS em σ ++ pl) s.heap.size = A at hD ⊢
  have hA : ∀ q : Nat, s.heap.size ≤ q → A q := fun q h => by rw [← hAe]; exact Or.inr h
  have hS : va_S A s.heap s.heap [] := va_S.rf
  have hP : va_P D vwCl (zX q cM cH cW cL cB cS em σ ++ pl) s.heap := hP
  have hD : va_D A (zX q cM cH cW cL cB cS em σ ++ pl) := hD
  have hl := lv_entry ([.ref (q 0), .int k, .ref h1, .ref h2]) (n := 5) (Nat.le_of_ble_eq_true rfl)
  rw [lg_entry_eq]
  generalize (lg_sl ([.ref (q 0), .int k, .ref h1, .ref h2]) ++ List.replicate (5 - (lg_sl ([.ref (q 0), .int k, .ref h1, .ref h2])).length) Slot.unset).toArray = ls at hl ⊢
  have hl : lv_has ls 5 [(0, .ref (q 0)), (1, .int k), (2, .ref h1), (3, .ref h2)] := hl
  unfold f_V_commitDraft_rr at hres
  refine lv_aload_n hx hb d_V_commitDraft_0 rfl (lv_at hl 0 rfl) ?_
  refine va_get (D := D) (ci := 3) (v := .int σ.1) (C := R_V) (T := T_V) (N := 10) hx hb hts in_V hown hK hP (0) rfl rfl 1 (by decide) (hts _ k_137) (fun _ h9 => h9) rfl d_V_commitDraft_1 ?_
  refine lv_istore (lv' := [(4, .int σ.1), (0, .ref (q 0)), (1, .int k), (2, .ref h1), (3, .ref h2)]) hx hb d_V_commitDraft_4 hl (by decide) rfl (fun ls hl => ?_)
  refine lv_aload_n hx hb d_V_commitDraft_6 rfl (lv_at hl 1 rfl) ?_
  refine va_get (D := D) (ci := 3) (v := .ref (q 1)) (C := R_V) (T := T_V) (N := 10) hx hb hts in_V hown hK hP (0) rfl rfl 0 (by decide) (hts _ k_136) (fun _ h9 => h9) rfl d_V_commitDraft_7 ?_
  refine lv_iload hx hb d_V_commitDraft_10 (lv_at hl 0 rfl) ?_
  refine va_new (ci := 1) (fs := [.int 0, .int 0, .null, .null, .null, .long 0, .long 0]) (C := R_C) (T := T_C) (N := 7) hx hb hts in_C ty_C ok_C hown (hts _ k_46) (hts _ k_225) (hts _ k_35) hK hP hD hS hA rfl (fun j hj => by rcases (show j = 0 ∨ j = 1 ∨ j = 2 ∨ j = 3 ∨ j = 4 ∨ j = 5 ∨ j = 6 by omega) with rfl | rfl | rfl | rfl | rfl | rfl | rfl <;> rfl) (Nat.le_of_ble_eq_true rfl) (Nat.le_of_ble_eq_true rfl) d_V_commitDraft_12 (fun q12 H hP hD hS => ?_)
  have hP : va_P D vwCl ((zX q cM cH cW cL cB cS em σ ++ pl) ++ [(q12, .inr (1, [.int 0, .int 0, .null, .null, .null, .long 0, .long 0]))]) H := hP
  have hD : va_D A ((zX q cM cH cW cL cB cS em σ ++ pl) ++ [(q12, .inr (1, [.int 0, .int 0, .null, .null, .null, .long 0, .long 0]))]) := hD
  refine lv_dup hx hb d_V_commitDraft_15 rfl ?_
  refine lv_iload hx hb d_V_commitDraft_16 (lv_at hl 0 rfl) ?_
  refine lv_aload_n hx hb d_V_commitDraft_18 rfl (lv_at hl 3 rfl) ?_
  refine lv_aload_n hx hb d_V_commitDraft_19 rfl (lv_at hl 4 rfl) ?_
  refine lv_aload_n hx hb d_V_commitDraft_20 rfl (lv_at hl 1 rfl) ?_
  refine va_get (D := D) (ci := 3) (v := .ref (q 6)) (C := R_V) (T := T_V) (N := 10) hx hb hts in_V hown hK hP (0) rfl rfl 8 (by decide) (hts _ k_144) (fun _ h9 => h9) rfl d_V_commitDraft_21 ?_
  obtain ⟨o_24, ho_24, hres⟩ := zl_b (0, 0) hres
  obtain ⟨ko_24, hko_24⟩ := hpl.1 _ _ ho_24
  obtain ⟨o_24', ho_24', hres⟩ := zl_b (0, 0) hres
  obtain ⟨ko_24', hko_24'⟩ := hpl.1 _ _ ho_24'
  by_cases ck_24 : ¬ h1 = h2
  · have hres := zl_p ck_24 hres
    have hkk : ¬ ko_24 = ko_24' := fun e => by
      have h9 := hko_24
      rw [e, hko_24'] at h9
      exact ck_24 (congrArg Prod.fst (Option.some.inj h9)).symm
    obtain ⟨v24, hc24, hres⟩ := zl_b (0, 0) hres
    have hRc : ([6, 15 + ko_24, 15 + ko_24'] : List Nat).map (fun i => (zX q cM cH cW cL cB cS em σ ++ pl)[i]?) = ([(q 6, zcT σ.2.2.2.2.2.2.1), (h1, zcC o_24), (h2, zcC o_24')] : va_W).map some := (zcons rfl (zcons (zpl_get hko_24) (zcons (zpl_get hko_24') znil)))
    refine zc_n (c0 := (q12, .inr (1, [.int 0, .int 0, .null, .null, .null, .long 0, .long 0]))) (c1 := fun u => (q12, zcC (v24.1, v24.2.1, v24.2.2.1, v24.2.2.2.1, u, v24.2.2.2.2.1, v24.2.2.2.2.2.1))) (w1b := fun u => [(u, zcT v24.2.2.2.2.2.2)]) (wro := [(q 6, zcT σ.2.2.2.2.2.2.1), (h1, zcC o_24), (h2, zcC o_24')]) (va_runI (As := [.int σ.1, .ref h1, .ref h2, .ref (q 6)]) (rest := [.ref q12, .int σ.1, .ref (q 1)]) ⟨hx, hb, hml, hown, hts⟩ (c_C_init_rrr l D [(cM, .object R_C), (cH, .int), (cW, .boolean), (cL, .int), (cB, .int), (cS, .object R_T)] _ q12 (q 6) σ.1 h1 h2 o_24 o_24' σ.2.2.2.2.2.2.1 v24 hc24) (cwI 4 hts g_C_init rfl rfl rfl (hts _ k_35) (hts _ k_226) (hts _ k_227) rfl hd_C_init ⟨Nat.le_of_ble_eq_true rfl, Nat.le_of_ble_eq_true rfl⟩) ⟨zrw_b _, zrw_n hP hD hK hN [6, 15 + ko_24, 15 + ko_24'] hRc (by simp [va_nd] <;> omega) _⟩ rfl rfl hl.1 rfl (lv_room (Nat.le_of_ble_eq_true rfl)) d_V_commitDraft_24 ⟨Nat.le_of_ble_eq_true rfl, Nat.le_of_ble_eq_true rfl⟩) hP hD hS hA [6, 15 + ko_24, 15 + ko_24'] hRc (fun _ => rfl) (fun u24 H locs hP hD hS => ?_)
    obtain ⟨qn, rfl, rfl⟩ : ∃ z : Nat × Nat, z.1 = q12 ∧ z.2 = u24 := ⟨(q12, u24), rfl, rfl⟩
    have hres := hres qn
    rw [List.append_assoc] at hP hD
    have hP : va_P D vwCl (zX q cM cH cW cL cB cS em σ ++ (pl ++ [(qn.1, zcC (v24.1, v24.2.1, v24.2.2.1, v24.2.2.2.1, qn.2, v24.2.2.2.2.1, v24.2.2.2.2.2.1)), (qn.2, zcT v24.2.2.2.2.2.2)])) H := hP
    have hD : va_D A (zX q cM cH cW cL cB cS em σ ++ (pl ++ [(qn.1, zcC (v24.1, v24.2.1, v24.2.2.1, v24.2.2.2.1, qn.2, v24.2.2.2.2.1, v24.2.2.2.2.2.1)), (qn.2, zcT v24.2.2.2.2.2.2)])) := hD
    by_cases ck_27 : zin σ.1 60
    · have hres := zi_p ck_27 hres
      refine va_astq hx hb hK hP hD hS 1 0 (15 + pl.length) 1 rfl rfl (zpl_get zl2) rfl ck_27 d_V_commitDraft_27 (fun H locs hP hD hS => ?_)
      have hP : va_P D vwCl ([(q 0, .inr (3, [.ref (q 1), .int σ.1, .ref (q 2), .ref (q 3), .ref (q 4), .int σ.2.1, .ref (q 5), .ref (q 7), .ref (q 6), .ref (q 9)])), (q 1, .inl (cM, 60, .inr (.inr (.inr (.inr (va_up σ.2.2.1 σ.1.toNatClampNeg (some qn.1))))))), (q 2, .inl (cH, 4, .inl σ.2.2.2.1)), (q 3, .inl (cW, 4, .inl σ.2.2.2.2.1)), (q 4, .inl (cL, 100, .inl σ.2.2.2.2.2.1)), (q 5, zcT em), (q 6, zcT σ.2.2.2.2.2.2.1), (q 7, .inr (2, [.ref (q 8)])), (q 8, .inl (cB, 16, .inl σ.2.2.2.2.2.2.2.1)), (q 9, .inl (cS, 5, .inr (.inr (.inr (.inr (zbs q)))))), (q 10, zcT σ.2.2.2.2.2.2.2.2.1), (q 11, zcT σ.2.2.2.2.2.2.2.2.2.1), (q 12, zcT σ.2.2.2.2.2.2.2.2.2.2.1), (q 13, zcT σ.2.2.2.2.2.2.2.2.2.2.2.1), (q 14, zcT σ.2.2.2.2.2.2.2.2.2.2.2.2)] ++ (pl ++ [(qn.1, zcC (v24.1, v24.2.1, v24.2.2.1, v24.2.2.2.1, qn.2, v24.2.2.2.2.1, v24.2.2.2.2.2.1)), (qn.2, zcT v24.2.2.2.2.2.2)])) H := hP
      have hD : va_D A ([(q 0, .inr (3, [.ref (q 1), .int σ.1, .ref (q 2), .ref (q 3), .ref (q 4), .int σ.2.1, .ref (q 5), .ref (q 7), .ref (q 6), .ref (q 9)])), (q 1, .inl (cM, 60, .inr (.inr (.inr (.inr (va_up σ.2.2.1 σ.1.toNatClampNeg (some qn.1))))))), (q 2, .inl (cH, 4, .inl σ.2.2.2.1)), (q 3, .inl (cW, 4, .inl σ.2.2.2.2.1)), (q 4, .inl (cL, 100, .inl σ.2.2.2.2.2.1)), (q 5, zcT em), (q 6, zcT σ.2.2.2.2.2.2.1), (q 7, .inr (2, [.ref (q 8)])), (q 8, .inl (cB, 16, .inl σ.2.2.2.2.2.2.2.1)), (q 9, .inl (cS, 5, .inr (.inr (.inr (.inr (zbs q)))))), (q 10, zcT σ.2.2.2.2.2.2.2.2.1), (q 11, zcT σ.2.2.2.2.2.2.2.2.2.1), (q 12, zcT σ.2.2.2.2.2.2.2.2.2.2.1), (q 13, zcT σ.2.2.2.2.2.2.2.2.2.2.2.1), (q 14, zcT σ.2.2.2.2.2.2.2.2.2.2.2.2)] ++ (pl ++ [(qn.1, zcC (v24.1, v24.2.1, v24.2.2.1, v24.2.2.2.1, qn.2, v24.2.2.2.2.1, v24.2.2.2.2.2.1)), (qn.2, zcT v24.2.2.2.2.2.2)])) := hD
      refine lv_aload_n hx hb d_V_commitDraft_28 rfl (lv_at hl 1 rfl) ?_
      refine lv_dup hx hb d_V_commitDraft_29 rfl ?_
      refine va_get (D := D) (ci := 3) (v := .int σ.1) (C := R_V) (T := T_V) (N := 10) hx hb hts in_V hown hK hP (0) rfl rfl 1 (by decide) (hts _ k_137) (fun _ h9 => h9) rfl d_V_commitDraft_30 ?_
      refine lv_iconst (v := 1) hx hb d_V_commitDraft_33 (by decide) ?_
      refine lv_iadd hx hb d_V_commitDraft_34 ?_
      refine va_put (D := D) (ci := 3) (v := .int (σ.1 + 1)) (ty := .int) (C := R_V) (T := T_V) (N := 10) hx hb hts in_V ty_V ok_V nm_V hown hK hP hD hS 0 rfl rfl 1 (by decide) (hts _ k_137) (fun _ h9 => h9) rfl (by decide +kernel) rfl rfl (Nat.le_of_ble_eq_true rfl) d_V_commitDraft_35 (fun H locs hP hD hS => ?_)
      have hP : va_P D vwCl ([(q 0, .inr (3, [.ref (q 1), .int (σ.1 + 1), .ref (q 2), .ref (q 3), .ref (q 4), .int σ.2.1, .ref (q 5), .ref (q 7), .ref (q 6), .ref (q 9)])), (q 1, .inl (cM, 60, .inr (.inr (.inr (.inr (va_up σ.2.2.1 σ.1.toNatClampNeg (some qn.1))))))), (q 2, .inl (cH, 4, .inl σ.2.2.2.1)), (q 3, .inl (cW, 4, .inl σ.2.2.2.2.1)), (q 4, .inl (cL, 100, .inl σ.2.2.2.2.2.1)), (q 5, zcT em), (q 6, zcT σ.2.2.2.2.2.2.1), (q 7, .inr (2, [.ref (q 8)])), (q 8, .inl (cB, 16, .inl σ.2.2.2.2.2.2.2.1)), (q 9, .inl (cS, 5, .inr (.inr (.inr (.inr (zbs q)))))), (q 10, zcT σ.2.2.2.2.2.2.2.2.1), (q 11, zcT σ.2.2.2.2.2.2.2.2.2.1), (q 12, zcT σ.2.2.2.2.2.2.2.2.2.2.1), (q 13, zcT σ.2.2.2.2.2.2.2.2.2.2.2.1), (q 14, zcT σ.2.2.2.2.2.2.2.2.2.2.2.2)] ++ (pl ++ [(qn.1, zcC (v24.1, v24.2.1, v24.2.2.1, v24.2.2.2.1, qn.2, v24.2.2.2.2.1, v24.2.2.2.2.2.1)), (qn.2, zcT v24.2.2.2.2.2.2)])) H := hP
      have hD : va_D A ([(q 0, .inr (3, [.ref (q 1), .int (σ.1 + 1), .ref (q 2), .ref (q 3), .ref (q 4), .int σ.2.1, .ref (q 5), .ref (q 7), .ref (q 6), .ref (q 9)])), (q 1, .inl (cM, 60, .inr (.inr (.inr (.inr (va_up σ.2.2.1 σ.1.toNatClampNeg (some qn.1))))))), (q 2, .inl (cH, 4, .inl σ.2.2.2.1)), (q 3, .inl (cW, 4, .inl σ.2.2.2.2.1)), (q 4, .inl (cL, 100, .inl σ.2.2.2.2.2.1)), (q 5, zcT em), (q 6, zcT σ.2.2.2.2.2.2.1), (q 7, .inr (2, [.ref (q 8)])), (q 8, .inl (cB, 16, .inl σ.2.2.2.2.2.2.2.1)), (q 9, .inl (cS, 5, .inr (.inr (.inr (.inr (zbs q)))))), (q 10, zcT σ.2.2.2.2.2.2.2.2.1), (q 11, zcT σ.2.2.2.2.2.2.2.2.2.1), (q 12, zcT σ.2.2.2.2.2.2.2.2.2.2.1), (q 13, zcT σ.2.2.2.2.2.2.2.2.2.2.2.1), (q 14, zcT σ.2.2.2.2.2.2.2.2.2.2.2.2)] ++ (pl ++ [(qn.1, zcC (v24.1, v24.2.1, v24.2.2.1, v24.2.2.2.1, qn.2, v24.2.2.2.2.1, v24.2.2.2.2.2.1)), (qn.2, zcT v24.2.2.2.2.2.2)])) := hD
      refine lv_aload_n hx hb d_V_commitDraft_38 rfl (lv_at hl 1 rfl) ?_
      refine lv_iload_n hx hb d_V_commitDraft_39 rfl (lv_at hl 2 rfl) ?_
      refine lv_iload hx hb d_V_commitDraft_40 (lv_at hl 0 rfl) ?_
      obtain ⟨v42, hc42, hres⟩ := zo_b hres
      refine zw_v (ws' := zX q cM cH cW cL cB cS em v42 ++ (pl ++ [(qn.1, zcC (v24.1, v24.2.1, v24.2.2.1, v24.2.2.2.1, qn.2, v24.2.2.2.2.1, v24.2.2.2.2.2.1)), (qn.2, zcT v24.2.2.2.2.2.2)])) (va_runV (As := [.int k, .int σ.1]) (rest := []) ⟨hx, hb, hml, hown, hts⟩ (c_V_moveHead l D [(cM, .object R_C), (cH, .int), (cW, .boolean), (cL, .int), (cB, .int), (cS, .object R_T)] _ q cM cH cW cL cB cS em (pl ++ [(qn.1, zcC (v24.1, v24.2.1, v24.2.2.1, v24.2.2.2.1, qn.2, v24.2.2.2.2.1, v24.2.2.2.2.2.1)), (qn.2, zcT v24.2.2.2.2.2.2)]) cm tm (zpool_app hpl) ((σ.1 + 1), σ.2.1, (va_up σ.2.2.1 σ.1.toNatClampNeg (some qn.1)), σ.2.2.2.1, σ.2.2.2.2.1, σ.2.2.2.2.2.1, σ.2.2.2.2.2.2.1, σ.2.2.2.2.2.2.2.1, σ.2.2.2.2.2.2.2.2.1, σ.2.2.2.2.2.2.2.2.2.1, σ.2.2.2.2.2.2.2.2.2.2.1, σ.2.2.2.2.2.2.2.2.2.2.2.1, σ.2.2.2.2.2.2.2.2.2.2.2.2) k σ.1 v42 hc42) (cwV 2 hts (zg_V k_279 k_281 k_3 k_29 g_V_moveHead) rfl rfl rfl ⟨rfl, hd_V_moveHead⟩ ⟨Nat.le_of_ble_eq_true rfl, Nat.le_of_ble_eq_true rfl⟩) ⟨zrw_b _, va_recv hK hP (q0 := 0) rfl rfl, zrw_w hP hD hK hN _⟩ rfl rfl hl.1 rfl (lv_room (Nat.le_of_ble_eq_true rfl)) d_V_commitDraft_42 ⟨Nat.le_of_ble_eq_true rfl, Nat.le_of_ble_eq_true rfl⟩) hD hS hA (fun H locs hP hD hS => ?_)
      have hP : va_P D vwCl (zX q cM cH cW cL cB cS em v42 ++ (pl ++ [(qn.1, zcC (v24.1, v24.2.1, v24.2.2.1, v24.2.2.2.1, qn.2, v24.2.2.2.2.1, v24.2.2.2.2.2.1)), (qn.2, zcT v24.2.2.2.2.2.2)])) H := hP
      have hD : va_D A (zX q cM cH cW cL cB cS em v42 ++ (pl ++ [(qn.1, zcC (v24.1, v24.2.1, v24.2.2.1, v24.2.2.2.1, qn.2, v24.2.2.2.2.1, v24.2.2.2.2.2.1)), (qn.2, zcT v24.2.2.2.2.2.2)])) := hD
      refine lv_iload hx hb d_V_commitDraft_45 (lv_at hl 0 rfl) ?_
      have e9 := Option.some.inj (hres)
      refine W.widen (k := 2) (n := 17) (by omega) (by omega) ?_
      exact W.iret (v := σ.1) hx hb hr (fun t ht hW => ⟨⟨_, qn, rfl, congrArg Prod.fst e9, by show va_P D vwCl (zX q cM cH cW cL cB cS em (v qn).2.1 ++ zpn pl qn (v qn).2.2) t.heap; rw [ht, ← e9]; exact hP, va_K.moved hW.alike hK, by show va_D A (zX q cM cH cW cL cB cS em (v qn).2.1 ++ zpn pl qn (v qn).2.2); rw [← e9]; exact hD⟩, hS.F ht⟩) hS.2.2 d_V_commitDraft_47
    · exact absurd (zi_n ck_27 hres) (by simp)
  · exact absurd (zl_n ck_24 hres (0, 0)) (by simp)
abbrev qd_V_change (D : va_G) (tys : List (ClassId × FieldType)) (q : Nat → Nat) (cM : ClassId) (cH : ClassId) (cW : ClassId) (cL : ClassId) (cB : ClassId) (cS : ClassId) (em : TreeV) (pl : va_W) (cm : Nat → Option ComV) (tm : Nat → Option TreeV) (σ : VSt) (k : Int32) (j : Int32) (x : Int64) (v : Nat × Nat → Int32 × VSt × (Option (ComV × TreeV))) (A : Nat → Prop) : Array Value → State → Outcome → State → Prop := va_Qi (fun (r : Int32) (u : Nat × Nat) => r = (v u).1) (fun u t => zwd D [(cM, .object R_C), (cH, .int), (cW, .boolean), (cL, .int), (cB, .int), (cS, .object R_T)] (A) (zX q cM cH cW cL cB cS em (v u).2.1 ++ zpn pl u (v u).2.2) t) (A)

def f_V_change (qn : Nat × Nat) (em : TreeV) (cm : Nat → Option ComV) (tm : Nat → Option TreeV) (σ : VSt) (k : Int32) (j : Int32) (x : Int64) : Option (Int32 × VSt × (Option (ComV × TreeV))) :=
  Option.bind (f_V_isBranch k) (fun v1 =>
    if v1 = 0 then
      some ((-1), σ, none)
    else
      Option.bind (f_H_isInBounds j x) (fun v9 =>
        if v9 = 0 then
          some ((-1), σ, none)
        else
          if zin k 4 then
            Option.bind (f_V_commitAt em cm tm σ (σ.2.2.2.1 k.toNatClampNeg)) (fun v24 =>
              zo_m (v24) (
                Option.bind (f_H_fits em j x) (fun v52 =>
                  if v52 = 0 then
                    some ((-3), σ, none)
                  else
                    if σ.1 < 60 then
                      Option.bind (f_T_become σ.2.2.2.2.2.2.1 em) (fun v79 =>
                        Option.bind (f_H_apply v79 j x (σ.1 + 1)) (fun v94 =>
                          Option.bind (f_V_commitDraft_nn qn em cm tm (σ.1, σ.2.1, σ.2.2.1, σ.2.2.2.1, σ.2.2.2.2.1, σ.2.2.2.2.2.1, v94, σ.2.2.2.2.2.2.2.1, σ.2.2.2.2.2.2.2.2.1, σ.2.2.2.2.2.2.2.2.2.1, σ.2.2.2.2.2.2.2.2.2.2.1, σ.2.2.2.2.2.2.2.2.2.2.2.1, σ.2.2.2.2.2.2.2.2.2.2.2.2) k) (fun v102 =>
                            some (v102.1, v102.2.1, v102.2.2))))
                    else
                      some ((-2), σ, none))) (fun y_24 =>
                Option.bind (cm y_24) (fun o_43 =>
                  Option.bind (tm o_43.2.2.2.2.1) (fun o_52 =>
                    Option.bind (f_H_fits o_52 j x) (fun v52 =>
                      if v52 = 0 then
                        some ((-3), σ, none)
                      else
                        if σ.1 < 60 then
                          Option.bind (f_T_become σ.2.2.2.2.2.2.1 o_52) (fun v79 =>
                            Option.bind (f_H_apply v79 j x (σ.1 + 1)) (fun v94 =>
                              Option.bind (f_V_commitDraft_rn qn em cm tm (σ.1, σ.2.1, σ.2.2.1, σ.2.2.2.1, σ.2.2.2.2.1, σ.2.2.2.2.2.1, v94, σ.2.2.2.2.2.2.2.1, σ.2.2.2.2.2.2.2.2.1, σ.2.2.2.2.2.2.2.2.2.1, σ.2.2.2.2.2.2.2.2.2.2.1, σ.2.2.2.2.2.2.2.2.2.2.2.1, σ.2.2.2.2.2.2.2.2.2.2.2.2) k y_24) (fun v102 =>
                                some (v102.1, v102.2.1, v102.2.2))))
                        else
                          some ((-2), σ, none))))))
          else
            none))
set_option maxHeartbeats 4000000 in
set_option maxRecDepth 100000 in
theorem c_V_change (l : Launch) (D : va_G) (tys : List (ClassId × FieldType)) (sz : Nat) (q : Nat → Nat) (cM : ClassId) (cH : ClassId) (cW : ClassId) (cL : ClassId) (cB : ClassId) (cS : ClassId) (em : TreeV) (pl : va_W) (cm : Nat → Option ComV) (tm : Nat → Option TreeV) (hpl : zpool pl cm tm) (σ : VSt) (k : Int32) (j : Int32) (x : Int64) (v : Nat × Nat → Int32 × VSt × (Option (ComV × TreeV))) (hres : ∀ qn : Nat × Nat, f_V_change qn em cm tm σ k j x = some (v qn)) : Met l y_V_change w_V_change ({ frames := 4, cells := 2, slots := 17, locals := 98 } : Room) (va_Pc ([.ref (q 0), .int k, .int j, .long x]) (zrw D [(cM, .object R_C), (cH, .int), (cW, .boolean), (cL, .int), (cB, .int), (cS, .object R_T)] sz (zX q cM cH cW cL cB cS em σ ++ pl))) (qd_V_change D tys q cM cH cW cL cB cS em pl cm tm σ k j x v (va_A (zX q cM cH cW cL cB cS em σ ++ pl) sz)) 2 17 (va_A (zX q cM cH cW cL cB cS em σ ++ pl) sz) := by
  refine Met.ofW (cc := b_V_change) (maxL := 7) (ret := (some .int)) (by decide) rfl ?_
  intro p e s m args below meth c s₁ B hml hv
  obtain ⟨rfl, hsz, hP, hK, hD0, hN⟩ := hv
  have hx := B.exec
  have hb := B.bytes
  have hr := B.returns
  have hts : ∀ w ∈ zt, w.before ([.ref (q 0), .int k, .int j, .long x].toArray) s = true := fun w h => atoms_spec (ws := w_V_change) B.pre w (List.mem_cons_of_mem _ h)
  have hown : s.vm.findClass R_V = some m.cls := findClass_of_methodNamed B.named
  have hlocks := B.notSynchronized
  subst hsz
  have hD := hD0.self (sz := s.heap.size)
  generalize hAe : va_A (zX q cM cH cW cL cB cS em σ ++ pl) s.heap.size = A at hD ⊢
  have hA : ∀ q : Nat, s.heap.size ≤ q → A q := fun q h => by rw [← hAe]; exact Or.inr h
  have hS : va_S A s.heap s.heap [] := va_S.rf
  have hP : va_P D vwCl (zX q cM cH cW cL cB cS em σ ++ pl) s.heap := hP
  have hD : va_D A (zX q cM cH cW cL cB cS em σ ++ pl) := hD
  have hl := lv_entry ([.ref (q 0), .int k, .int j, .long x]) (n := 7) (Nat.le_of_ble_eq_true rfl)
  rw [lg_entry_eq]
  generalize (lg_sl ([.ref (q 0), .int k, .int j, .long x]) ++ List.replicate (7 - (lg_sl ([.ref (q 0), .int k, .int j, .long x])).length) Slot.unset).toArray = ls at hl ⊢
  have hl : lv_has ls 7 [(0, .ref (q 0)), (1, .int k), (2, .int j), (3, .long x)] := hl
  unfold f_V_change at hres
  refine lv_iload_n hx hb d_V_change_0 rfl (lv_at hl 1 rfl) ?_
  obtain ⟨v1, hc1, hres⟩ := zl_b (0, 0) hres
  refine vp_callSi (va_Run.run (va_runS (As := [.int k]) (rest := []) ⟨hx, hb, hml, hown, hts⟩ (c_V_isBranch l D [(cM, .object R_C), (cH, .int), (cW, .boolean), (cL, .int), (cB, .int), (cS, .object R_T)] k v1 hc1) (va_cwS 1 hts (zg_S k_171 k_172 k_29 g_V_isBranch) rfl rfl rfl hd_V_isBranch ⟨Nat.le_of_ble_eq_true rfl, Nat.le_of_ble_eq_true rfl⟩) ⟨zro_b _, zro_p va_Pnil hK hN _⟩ rfl rfl hl.1 rfl (lv_room (Nat.le_of_ble_eq_true rfl)) d_V_change_1 ⟨Nat.le_of_ble_eq_true rfl, Nat.le_of_ble_eq_true rfl⟩)) (fun r_1 er_1 => ?_)
  have er_1 := er_1.symm
  subst er_1
  refine lv_if_eq (tgt := 15) hx hb d_V_change_4 (by decide) (fun c_4 => ?_) (fun c_4 => ?_)
  · have hres := zl_p c_4 hres
    refine lv_iconst (v := (-1)) hx hb d_V_change_15 (by decide) ?_
    have e9 := Option.some.inj (hres (0, 0))
    refine W.widen (k := 2) (n := 17) (by omega) (by omega) ?_
    exact W.iret (v := (-1)) hx hb hr (fun t ht hW => ⟨⟨_, (0, 0), rfl, congrArg Prod.fst e9, by show va_P D vwCl (zX q cM cH cW cL cB cS em (v (0, 0)).2.1 ++ zpn pl (0, 0) (v (0, 0)).2.2) t.heap; rw [ht, ← e9]; exact hP, va_K.moved hW.alike hK, by show va_D A (zX q cM cH cW cL cB cS em (v (0, 0)).2.1 ++ zpn pl (0, 0) (v (0, 0)).2.2); rw [← e9]; exact hD⟩, hS.F ht⟩) hS.2.2 d_V_change_16
  · have hres := zl_n c_4 hres
    refine lv_iload_n hx hb d_V_change_7 rfl (lv_at hl 2 rfl) ?_
    refine lv_lload_n hx hb d_V_change_8 rfl (lv_at hl 3 rfl) ?_
    obtain ⟨v9, hc9, hres⟩ := zl_b (0, 0) hres
    refine vp_callSi (va_Run.run (va_runS (As := [.int j, .long x]) (rest := []) ⟨hx, hb, hml, hown, hts⟩ (c_H_isInBounds l D [(cM, .object R_C), (cH, .int), (cW, .boolean), (cL, .int), (cB, .int), (cS, .object R_T)] j x v9 hc9) (va_cwS 2 hts (zg_S k_174 k_175 k_33 g_H_isInBounds) rfl rfl rfl hd_H_isInBounds ⟨Nat.le_of_ble_eq_true rfl, Nat.le_of_ble_eq_true rfl⟩) ⟨zro_b _, zro_p va_Pnil hK hN _⟩ rfl rfl hl.1 rfl (lv_room (Nat.le_of_ble_eq_true rfl)) d_V_change_9 ⟨Nat.le_of_ble_eq_true rfl, Nat.le_of_ble_eq_true rfl⟩)) (fun r_9 er_9 => ?_)
    have er_9 := er_9.symm
    subst er_9
    refine lv_if_ne (tgt := 17) hx hb d_V_change_12 (by decide) (fun c_12 => ?_) (fun c_12 => ?_)
    · have hres := zl_n c_12 hres
      refine lv_aload_n hx hb d_V_change_17 rfl (lv_at hl 0 rfl) ?_
      refine lv_aload_n hx hb d_V_change_18 rfl (lv_at hl 0 rfl) ?_
      refine va_get (D := D) (ci := 3) (v := .ref (q 2)) (C := R_V) (T := T_V) (N := 10) hx hb hts in_V hown hK hP (0) rfl rfl 2 (by decide) (hts _ k_138) (fun _ h9 => h9) rfl d_V_change_19 ?_
      refine lv_iload_n hx hb d_V_change_22 rfl (lv_at hl 1 rfl) ?_
      by_cases ck_23 : zin k 4
      · have hres := zl_p ck_23 hres
        refine va_iald hx hb hK hP 2 1 rfl rfl ck_23 d_V_change_23 ?_
        obtain ⟨v24, hc24, hres⟩ := zl_b (0, 0) hres
        refine va_csq (va_Run.run (va_runV (As := [.int (σ.2.2.2.1 k.toNatClampNeg)]) (rest := []) ⟨hx, hb, hml, hown, hts⟩ (c_V_commitAt l D [(cM, .object R_C), (cH, .int), (cW, .boolean), (cL, .int), (cB, .int), (cS, .object R_T)] q cM cH cW cL cB cS em pl cm tm hpl σ (σ.2.2.2.1 k.toNatClampNeg) v24 hc24) (cwV 1 hts (zg_V k_179 k_181 k_0 k_29 g_V_commitAt) rfl rfl rfl ⟨rfl, hd_V_commitAt⟩ ⟨Nat.le_of_ble_eq_true rfl, Nat.le_of_ble_eq_true rfl⟩) ⟨zro_b _, va_recv hK hP (q0 := 0) rfl rfl, zro_p hP hK hN _⟩ rfl rfl hl.1 rfl (lv_room (Nat.le_of_ble_eq_true rfl)) d_V_change_24 ⟨Nat.le_of_ble_eq_true rfl, Nat.le_of_ble_eq_true rfl⟩)) (fun r_24 er_24 => ?_)
        have er_24 := er_24.symm
        subst er_24
        rcases hq_24 : v24 with _ | y_24
        · have hres := zl_on hq_24 hres
          refine lv_astoreN (lv' := [(5, .null), (0, .ref (q 0)), (1, .int k), (2, .int j), (3, .long x)]) hx hb d_V_change_27 hl (by decide) rfl (fun ls hl => ?_)
          refine lv_aloadN hx hb d_V_change_29 (lv_at hl 0 rfl) ?_
          refine lv_ifnonnullN hx hb d_V_change_31 ?_
          refine lv_aload_n hx hb d_V_change_34 rfl (lv_at hl 1 rfl) ?_
          refine va_get (D := D) (ci := 3) (v := .ref (q 5)) (C := R_V) (T := T_V) (N := 10) hx hb hts in_V hown hK hP (0) rfl rfl 6 (by decide) (hts _ k_142) (fun _ h9 => h9) rfl d_V_change_35 ?_
          refine lv_goto (tgt := 46) hx hb d_V_change_38 (by decide) ?_
          refine lv_astore (lv' := [(6, .ref (q 5)), (5, .null), (0, .ref (q 0)), (1, .int k), (2, .int j), (3, .long x)]) hx hb d_V_change_46 hl (by decide) rfl (fun ls hl => ?_)
          refine lv_aload hx hb d_V_change_48 (lv_at hl 0 rfl) ?_
          refine lv_iload_n hx hb d_V_change_50 rfl (lv_at hl 4 rfl) ?_
          refine lv_lload_n hx hb d_V_change_51 rfl (lv_at hl 5 rfl) ?_
          obtain ⟨v52, hc52, hres⟩ := zl_b (0, 0) hres
          have hPc := zsubP hP (wc := [(q 5, zcT em)]) (is := [5]) (zcons rfl znil)
          refine vp_callSi (va_Run.run (va_runS (As := [.ref (q 5), .int j, .long x]) (rest := []) ⟨hx, hb, hml, hown, hts⟩ (c_H_fits l D [(cM, .object R_C), (cH, .int), (cW, .boolean), (cL, .int), (cB, .int), (cS, .object R_T)] (q 5) em j x v52 hc52) (va_cwS 3 hts (zg_S k_187 k_188 k_33 g_H_fits) rfl rfl rfl hd_H_fits ⟨Nat.le_of_ble_eq_true rfl, Nat.le_of_ble_eq_true rfl⟩) ⟨zro_b _, zro_p hPc hK hN _⟩ rfl rfl hl.1 rfl (lv_room (Nat.le_of_ble_eq_true rfl)) d_V_change_52 ⟨Nat.le_of_ble_eq_true rfl, Nat.le_of_ble_eq_true rfl⟩)) (fun r_52 er_52 => ?_)
          have er_52 := er_52.symm
          subst er_52
          refine lv_if_ne (tgt := 61) hx hb d_V_change_55 (by decide) (fun c_55 => ?_) (fun c_55 => ?_)
          · have hres := zl_n c_55 hres
            refine lv_aload_n hx hb d_V_change_61 rfl (lv_at hl 2 rfl) ?_
            refine va_get (D := D) (ci := 3) (v := .int σ.1) (C := R_V) (T := T_V) (N := 10) hx hb hts in_V hown hK hP (0) rfl rfl 1 (by decide) (hts _ k_137) (fun _ h9 => h9) rfl d_V_change_62 ?_
            refine lv_bipush (v := 60) hx hb d_V_change_65 (by decide) ?_
            refine lv_icmp_lt (tgt := 73) hx hb d_V_change_67 (by decide) (fun c_67 => ?_) (fun c_67 => ?_)
            · have hres := zl_p c_67 hres
              refine lv_aload_n hx hb d_V_change_73 rfl (lv_at hl 2 rfl) ?_
              refine va_get (D := D) (ci := 3) (v := .ref (q 6)) (C := R_V) (T := T_V) (N := 10) hx hb hts in_V hown hK hP (0) rfl rfl 8 (by decide) (hts _ k_144) (fun _ h9 => h9) rfl d_V_change_74 ?_
              refine lv_aload hx hb d_V_change_77 (lv_at hl 0 rfl) ?_
              obtain ⟨v79, hc79, hres⟩ := zl_b (0, 0) hres
              have hWc : ([6] : List Nat).map (fun i => (zX q cM cH cW cL cB cS em σ ++ pl)[i]?) = ([(q 6, zcT σ.2.2.2.2.2.2.1)] : va_W).map some := (zcons rfl znil)
              have hRc : ([5] : List Nat).map (fun i => (zX q cM cH cW cL cB cS em σ ++ pl)[i]?) = ([(q 5, zcT em)] : va_W).map some := (zcons rfl znil)
              refine zd_v (wcw := [(q 6, zcT σ.2.2.2.2.2.2.1)]) (wro := [(q 5, zcT em)]) (w1w := [(q 6, zcT v79)]) (va_runV (As := [.ref (q 5)]) (rest := []) ⟨hx, hb, hml, hown, hts⟩ (c_T_become l D [(cM, .object R_C), (cH, .int), (cW, .boolean), (cL, .int), (cB, .int), (cS, .object R_T)] _ (q 6) (q 5) σ.2.2.2.2.2.2.1 em v79 hc79) (cwV 1 hts (zg_V k_208 k_209 k_210 k_30 g_T_become) rfl rfl rfl ⟨rfl, hd_T_become⟩ ⟨Nat.le_of_ble_eq_true rfl, Nat.le_of_ble_eq_true rfl⟩) ⟨zrw_b _, va_recv hK hP (q0 := 6) rfl rfl, zrw_p hP hD hK hN [6] [5] hWc hRc (by decide) _⟩ rfl rfl hl.1 rfl (lv_room (Nat.le_of_ble_eq_true rfl)) d_V_change_79 ⟨Nat.le_of_ble_eq_true rfl, Nat.le_of_ble_eq_true rfl⟩) hP hD hS hA [6] [5] hWc hRc rfl (fun H locs hP hD hS => ?_)
              have hP : va_P D vwCl ([(q 0, .inr (3, [.ref (q 1), .int σ.1, .ref (q 2), .ref (q 3), .ref (q 4), .int σ.2.1, .ref (q 5), .ref (q 7), .ref (q 6), .ref (q 9)])), (q 1, .inl (cM, 60, .inr (.inr (.inr (.inr σ.2.2.1))))), (q 2, .inl (cH, 4, .inl σ.2.2.2.1)), (q 3, .inl (cW, 4, .inl σ.2.2.2.2.1)), (q 4, .inl (cL, 100, .inl σ.2.2.2.2.2.1)), (q 5, zcT em), (q 6, zcT v79), (q 7, .inr (2, [.ref (q 8)])), (q 8, .inl (cB, 16, .inl σ.2.2.2.2.2.2.2.1)), (q 9, .inl (cS, 5, .inr (.inr (.inr (.inr (zbs q)))))), (q 10, zcT σ.2.2.2.2.2.2.2.2.1), (q 11, zcT σ.2.2.2.2.2.2.2.2.2.1), (q 12, zcT σ.2.2.2.2.2.2.2.2.2.2.1), (q 13, zcT σ.2.2.2.2.2.2.2.2.2.2.2.1), (q 14, zcT σ.2.2.2.2.2.2.2.2.2.2.2.2)] ++ pl) H := hP
              have hD : va_D A ([(q 0, .inr (3, [.ref (q 1), .int σ.1, .ref (q 2), .ref (q 3), .ref (q 4), .int σ.2.1, .ref (q 5), .ref (q 7), .ref (q 6), .ref (q 9)])), (q 1, .inl (cM, 60, .inr (.inr (.inr (.inr σ.2.2.1))))), (q 2, .inl (cH, 4, .inl σ.2.2.2.1)), (q 3, .inl (cW, 4, .inl σ.2.2.2.2.1)), (q 4, .inl (cL, 100, .inl σ.2.2.2.2.2.1)), (q 5, zcT em), (q 6, zcT v79), (q 7, .inr (2, [.ref (q 8)])), (q 8, .inl (cB, 16, .inl σ.2.2.2.2.2.2.2.1)), (q 9, .inl (cS, 5, .inr (.inr (.inr (.inr (zbs q)))))), (q 10, zcT σ.2.2.2.2.2.2.2.2.1), (q 11, zcT σ.2.2.2.2.2.2.2.2.2.1), (q 12, zcT σ.2.2.2.2.2.2.2.2.2.2.1), (q 13, zcT σ.2.2.2.2.2.2.2.2.2.2.2.1), (q 14, zcT σ.2.2.2.2.2.2.2.2.2.2.2.2)] ++ pl) := hD
              refine lv_aload_n hx hb d_V_change_82 rfl (lv_at hl 2 rfl) ?_
              refine va_get (D := D) (ci := 3) (v := .ref (q 6)) (C := R_V) (T := T_V) (N := 10) hx hb hts in_V hown hK hP (0) rfl rfl 8 (by decide) (hts _ k_144) (fun _ h9 => h9) rfl d_V_change_83 ?_
              refine lv_iload_n hx hb d_V_change_86 rfl (lv_at hl 4 rfl) ?_
              refine lv_lload_n hx hb d_V_change_87 rfl (lv_at hl 5 rfl) ?_
              refine lv_aload_n hx hb d_V_change_88 rfl (lv_at hl 2 rfl) ?_
              refine va_get (D := D) (ci := 3) (v := .int σ.1) (C := R_V) (T := T_V) (N := 10) hx hb hts in_V hown hK hP (0) rfl rfl 1 (by decide) (hts _ k_137) (fun _ h9 => h9) rfl d_V_change_89 ?_
              refine lv_iconst (v := 1) hx hb d_V_change_92 (by decide) ?_
              refine lv_iadd hx hb d_V_change_93 ?_
              obtain ⟨v94, hc94, hres⟩ := zl_b (0, 0) hres
              have hWc : ([6] : List Nat).map (fun i => ([(q 0, .inr (3, [.ref (q 1), .int σ.1, .ref (q 2), .ref (q 3), .ref (q 4), .int σ.2.1, .ref (q 5), .ref (q 7), .ref (q 6), .ref (q 9)])), (q 1, .inl (cM, 60, .inr (.inr (.inr (.inr σ.2.2.1))))), (q 2, .inl (cH, 4, .inl σ.2.2.2.1)), (q 3, .inl (cW, 4, .inl σ.2.2.2.2.1)), (q 4, .inl (cL, 100, .inl σ.2.2.2.2.2.1)), (q 5, zcT em), (q 6, zcT v79), (q 7, .inr (2, [.ref (q 8)])), (q 8, .inl (cB, 16, .inl σ.2.2.2.2.2.2.2.1)), (q 9, .inl (cS, 5, .inr (.inr (.inr (.inr (zbs q)))))), (q 10, zcT σ.2.2.2.2.2.2.2.2.1), (q 11, zcT σ.2.2.2.2.2.2.2.2.2.1), (q 12, zcT σ.2.2.2.2.2.2.2.2.2.2.1), (q 13, zcT σ.2.2.2.2.2.2.2.2.2.2.2.1), (q 14, zcT σ.2.2.2.2.2.2.2.2.2.2.2.2)] ++ pl)[i]?) = ([(q 6, zcT v79)] : va_W).map some := (zcons rfl znil)
              have hRc : ([] : List Nat).map (fun i => ([(q 0, .inr (3, [.ref (q 1), .int σ.1, .ref (q 2), .ref (q 3), .ref (q 4), .int σ.2.1, .ref (q 5), .ref (q 7), .ref (q 6), .ref (q 9)])), (q 1, .inl (cM, 60, .inr (.inr (.inr (.inr σ.2.2.1))))), (q 2, .inl (cH, 4, .inl σ.2.2.2.1)), (q 3, .inl (cW, 4, .inl σ.2.2.2.2.1)), (q 4, .inl (cL, 100, .inl σ.2.2.2.2.2.1)), (q 5, zcT em), (q 6, zcT v79), (q 7, .inr (2, [.ref (q 8)])), (q 8, .inl (cB, 16, .inl σ.2.2.2.2.2.2.2.1)), (q 9, .inl (cS, 5, .inr (.inr (.inr (.inr (zbs q)))))), (q 10, zcT σ.2.2.2.2.2.2.2.2.1), (q 11, zcT σ.2.2.2.2.2.2.2.2.2.1), (q 12, zcT σ.2.2.2.2.2.2.2.2.2.2.1), (q 13, zcT σ.2.2.2.2.2.2.2.2.2.2.2.1), (q 14, zcT σ.2.2.2.2.2.2.2.2.2.2.2.2)] ++ pl)[i]?) = ([] : va_W).map some := znil
              refine zd_v (wcw := [(q 6, zcT v79)]) (wro := []) (w1w := [(q 6, zcT v94)]) (va_runS (As := [.ref (q 6), .int j, .long x, .int (σ.1 + 1)]) (rest := []) ⟨hx, hb, hml, hown, hts⟩ (c_H_apply l D [(cM, .object R_C), (cH, .int), (cW, .boolean), (cL, .int), (cB, .int), (cS, .object R_T)] _ (q 6) v79 j x (σ.1 + 1) v94 hc94) (va_cwS 4 hts (zg_S k_212 k_213 k_33 g_H_apply) rfl rfl rfl hd_H_apply ⟨Nat.le_of_ble_eq_true rfl, Nat.le_of_ble_eq_true rfl⟩) ⟨zrw_b _, zrw_p hP hD hK hN [6] [] hWc hRc (by decide) _⟩ rfl rfl hl.1 rfl (lv_room (Nat.le_of_ble_eq_true rfl)) d_V_change_94 ⟨Nat.le_of_ble_eq_true rfl, Nat.le_of_ble_eq_true rfl⟩) hP hD hS hA [6] [] hWc hRc rfl (fun H locs hP hD hS => ?_)
              have hP : va_P D vwCl ([(q 0, .inr (3, [.ref (q 1), .int σ.1, .ref (q 2), .ref (q 3), .ref (q 4), .int σ.2.1, .ref (q 5), .ref (q 7), .ref (q 6), .ref (q 9)])), (q 1, .inl (cM, 60, .inr (.inr (.inr (.inr σ.2.2.1))))), (q 2, .inl (cH, 4, .inl σ.2.2.2.1)), (q 3, .inl (cW, 4, .inl σ.2.2.2.2.1)), (q 4, .inl (cL, 100, .inl σ.2.2.2.2.2.1)), (q 5, zcT em), (q 6, zcT v94), (q 7, .inr (2, [.ref (q 8)])), (q 8, .inl (cB, 16, .inl σ.2.2.2.2.2.2.2.1)), (q 9, .inl (cS, 5, .inr (.inr (.inr (.inr (zbs q)))))), (q 10, zcT σ.2.2.2.2.2.2.2.2.1), (q 11, zcT σ.2.2.2.2.2.2.2.2.2.1), (q 12, zcT σ.2.2.2.2.2.2.2.2.2.2.1), (q 13, zcT σ.2.2.2.2.2.2.2.2.2.2.2.1), (q 14, zcT σ.2.2.2.2.2.2.2.2.2.2.2.2)] ++ pl) H := hP
              have hD : va_D A ([(q 0, .inr (3, [.ref (q 1), .int σ.1, .ref (q 2), .ref (q 3), .ref (q 4), .int σ.2.1, .ref (q 5), .ref (q 7), .ref (q 6), .ref (q 9)])), (q 1, .inl (cM, 60, .inr (.inr (.inr (.inr σ.2.2.1))))), (q 2, .inl (cH, 4, .inl σ.2.2.2.1)), (q 3, .inl (cW, 4, .inl σ.2.2.2.2.1)), (q 4, .inl (cL, 100, .inl σ.2.2.2.2.2.1)), (q 5, zcT em), (q 6, zcT v94), (q 7, .inr (2, [.ref (q 8)])), (q 8, .inl (cB, 16, .inl σ.2.2.2.2.2.2.2.1)), (q 9, .inl (cS, 5, .inr (.inr (.inr (.inr (zbs q)))))), (q 10, zcT σ.2.2.2.2.2.2.2.2.1), (q 11, zcT σ.2.2.2.2.2.2.2.2.2.1), (q 12, zcT σ.2.2.2.2.2.2.2.2.2.2.1), (q 13, zcT σ.2.2.2.2.2.2.2.2.2.2.2.1), (q 14, zcT σ.2.2.2.2.2.2.2.2.2.2.2.2)] ++ pl) := hD
              refine lv_aload_n hx hb d_V_change_97 rfl (lv_at hl 2 rfl) ?_
              refine lv_iload_n hx hb d_V_change_98 rfl (lv_at hl 3 rfl) ?_
              refine lv_aloadN hx hb d_V_change_99 (lv_at hl 1 rfl) ?_
              refine lv_null hx hb d_V_change_101 ?_
              obtain ⟨v102, hc102, hres⟩ := zl_c hres
              refine zx_i (post := fun u => (v102 u).1) (ws' := fun u => zX q cM cH cW cL cB cS em (v102 u).2.1 ++ zpn pl u (v102 u).2.2) (va_runV (As := [.int k, .null, .null]) (rest := []) ⟨hx, hb, hml, hown, hts⟩ (c_V_commitDraft_nn l D [(cM, .object R_C), (cH, .int), (cW, .boolean), (cL, .int), (cB, .int), (cS, .object R_T)] _ q cM cH cW cL cB cS em pl cm tm hpl (σ.1, σ.2.1, σ.2.2.1, σ.2.2.2.1, σ.2.2.2.2.1, σ.2.2.2.2.2.1, v94, σ.2.2.2.2.2.2.2.1, σ.2.2.2.2.2.2.2.2.1, σ.2.2.2.2.2.2.2.2.2.1, σ.2.2.2.2.2.2.2.2.2.2.1, σ.2.2.2.2.2.2.2.2.2.2.2.1, σ.2.2.2.2.2.2.2.2.2.2.2.2) k v102 hc102) (cwV 3 hts (zg_V k_221 k_223 k_2 k_29 g_V_commitDraft) rfl rfl rfl ⟨rfl, hd_V_commitDraft⟩ ⟨Nat.le_of_ble_eq_true rfl, Nat.le_of_ble_eq_true rfl⟩) ⟨zrw_b _, va_recv hK hP (q0 := 0) rfl rfl, zrw_w hP hD hK hN _⟩ rfl rfl hl.1 rfl (lv_room (Nat.le_of_ble_eq_true rfl)) d_V_change_102 ⟨Nat.le_of_ble_eq_true rfl, Nat.le_of_ble_eq_true rfl⟩) hD hS hA (fun qn H locs hP hD hS => ?_)
              have hres := hres qn
              generalize v102 qn = v102 at hP hD hres ⊢
              have hP : va_P D vwCl (zX q cM cH cW cL cB cS em v102.2.1 ++ (zpn pl qn v102.2.2)) H := hP
              have hD : va_D A (zX q cM cH cW cL cB cS em v102.2.1 ++ (zpn pl qn v102.2.2)) := hD
              have e9 := Option.some.inj (hres)
              refine W.widen (k := 2) (n := 17) (by omega) (by omega) ?_
              exact W.iret (v := v102.1) hx hb hr (fun t ht hW => ⟨⟨_, qn, rfl, congrArg Prod.fst e9, by show va_P D vwCl (zX q cM cH cW cL cB cS em (v qn).2.1 ++ zpn pl qn (v qn).2.2) t.heap; rw [ht, ← e9]; exact hP, va_K.moved hW.alike hK, by show va_D A (zX q cM cH cW cL cB cS em (v qn).2.1 ++ zpn pl qn (v qn).2.2); rw [← e9]; exact hD⟩, hS.F ht⟩) hS.2.2 d_V_change_105
            · have hres := zl_n c_67 hres
              refine lv_bipush (v := (-2)) hx hb d_V_change_70 (by decide) ?_
              have e9 := Option.some.inj (hres (0, 0))
              refine W.widen (k := 2) (n := 17) (by omega) (by omega) ?_
              exact W.iret (v := (-2)) hx hb hr (fun t ht hW => ⟨⟨_, (0, 0), rfl, congrArg Prod.fst e9, by show va_P D vwCl (zX q cM cH cW cL cB cS em (v (0, 0)).2.1 ++ zpn pl (0, 0) (v (0, 0)).2.2) t.heap; rw [ht, ← e9]; exact hP, va_K.moved hW.alike hK, by show va_D A (zX q cM cH cW cL cB cS em (v (0, 0)).2.1 ++ zpn pl (0, 0) (v (0, 0)).2.2); rw [← e9]; exact hD⟩, hS.F ht⟩) hS.2.2 d_V_change_72
          · have hres := zl_p c_55 hres
            refine lv_bipush (v := (-3)) hx hb d_V_change_58 (by decide) ?_
            have e9 := Option.some.inj (hres (0, 0))
            refine W.widen (k := 2) (n := 17) (by omega) (by omega) ?_
            exact W.iret (v := (-3)) hx hb hr (fun t ht hW => ⟨⟨_, (0, 0), rfl, congrArg Prod.fst e9, by show va_P D vwCl (zX q cM cH cW cL cB cS em (v (0, 0)).2.1 ++ zpn pl (0, 0) (v (0, 0)).2.2) t.heap; rw [ht, ← e9]; exact hP, va_K.moved hW.alike hK, by show va_D A (zX q cM cH cW cL cB cS em (v (0, 0)).2.1 ++ zpn pl (0, 0) (v (0, 0)).2.2); rw [← e9]; exact hD⟩, hS.F ht⟩) hS.2.2 d_V_change_60
        · have hres := zl_os hq_24 hres
          refine lv_astore (lv' := [(5, .ref y_24), (0, .ref (q 0)), (1, .int k), (2, .int j), (3, .long x)]) hx hb d_V_change_27 hl (by decide) rfl (fun ls hl => ?_)
          refine lv_aload hx hb d_V_change_29 (lv_at hl 0 rfl) ?_
          refine lv_ifnonnull (tgt := 41) hx hb d_V_change_31 (by decide) ?_
          refine lv_aload hx hb d_V_change_41 (lv_at hl 0 rfl) ?_
          obtain ⟨o_43, ho_43, hres⟩ := zl_b (0, 0) hres
          obtain ⟨ko_43, hko_43⟩ := hpl.1 _ _ ho_43
          refine va_get (D := D) (ci := 1) (v := .ref o_43.2.2.2.2.1) (C := R_C) (T := T_C) (N := 7) hx hb hts in_C hown hK hP (15 + ko_43) (zpl_get hko_43) rfl 4 (by decide) (hts _ k_259) (fun _ h9 => h9) rfl d_V_change_43 ?_
          refine lv_astore (lv' := [(6, .ref o_43.2.2.2.2.1), (5, .ref y_24), (0, .ref (q 0)), (1, .int k), (2, .int j), (3, .long x)]) hx hb d_V_change_46 hl (by decide) rfl (fun ls hl => ?_)
          refine lv_aload hx hb d_V_change_48 (lv_at hl 0 rfl) ?_
          refine lv_iload_n hx hb d_V_change_50 rfl (lv_at hl 4 rfl) ?_
          refine lv_lload_n hx hb d_V_change_51 rfl (lv_at hl 5 rfl) ?_
          obtain ⟨o_52, ho_52, hres⟩ := zl_b (0, 0) hres
          obtain ⟨ko_52, hko_52⟩ := hpl.2 _ _ ho_52
          obtain ⟨v52, hc52, hres⟩ := zl_b (0, 0) hres
          have hPc := zsubP hP (wc := [(o_43.2.2.2.2.1, zcT o_52)]) (is := [15 + ko_52]) (zcons (zpl_get hko_52) znil)
          refine vp_callSi (va_Run.run (va_runS (As := [.ref o_43.2.2.2.2.1, .int j, .long x]) (rest := []) ⟨hx, hb, hml, hown, hts⟩ (c_H_fits l D [(cM, .object R_C), (cH, .int), (cW, .boolean), (cL, .int), (cB, .int), (cS, .object R_T)] o_43.2.2.2.2.1 o_52 j x v52 hc52) (va_cwS 3 hts (zg_S k_187 k_188 k_33 g_H_fits) rfl rfl rfl hd_H_fits ⟨Nat.le_of_ble_eq_true rfl, Nat.le_of_ble_eq_true rfl⟩) ⟨zro_b _, zro_p hPc hK hN _⟩ rfl rfl hl.1 rfl (lv_room (Nat.le_of_ble_eq_true rfl)) d_V_change_52 ⟨Nat.le_of_ble_eq_true rfl, Nat.le_of_ble_eq_true rfl⟩)) (fun r_52 er_52 => ?_)
          have er_52 := er_52.symm
          subst er_52
          refine lv_if_ne (tgt := 61) hx hb d_V_change_55 (by decide) (fun c_55 => ?_) (fun c_55 => ?_)
          · have hres := zl_n c_55 hres
            refine lv_aload_n hx hb d_V_change_61 rfl (lv_at hl 2 rfl) ?_
            refine va_get (D := D) (ci := 3) (v := .int σ.1) (C := R_V) (T := T_V) (N := 10) hx hb hts in_V hown hK hP (0) rfl rfl 1 (by decide) (hts _ k_137) (fun _ h9 => h9) rfl d_V_change_62 ?_
            refine lv_bipush (v := 60) hx hb d_V_change_65 (by decide) ?_
            refine lv_icmp_lt (tgt := 73) hx hb d_V_change_67 (by decide) (fun c_67 => ?_) (fun c_67 => ?_)
            · have hres := zl_p c_67 hres
              refine lv_aload_n hx hb d_V_change_73 rfl (lv_at hl 2 rfl) ?_
              refine va_get (D := D) (ci := 3) (v := .ref (q 6)) (C := R_V) (T := T_V) (N := 10) hx hb hts in_V hown hK hP (0) rfl rfl 8 (by decide) (hts _ k_144) (fun _ h9 => h9) rfl d_V_change_74 ?_
              refine lv_aload hx hb d_V_change_77 (lv_at hl 0 rfl) ?_
              obtain ⟨v79, hc79, hres⟩ := zl_b (0, 0) hres
              have hWc : ([6] : List Nat).map (fun i => (zX q cM cH cW cL cB cS em σ ++ pl)[i]?) = ([(q 6, zcT σ.2.2.2.2.2.2.1)] : va_W).map some := (zcons rfl znil)
              have hRc : ([15 + ko_52] : List Nat).map (fun i => (zX q cM cH cW cL cB cS em σ ++ pl)[i]?) = ([(o_43.2.2.2.2.1, zcT o_52)] : va_W).map some := (zcons (zpl_get hko_52) znil)
              refine zd_v (wcw := [(q 6, zcT σ.2.2.2.2.2.2.1)]) (wro := [(o_43.2.2.2.2.1, zcT o_52)]) (w1w := [(q 6, zcT v79)]) (va_runV (As := [.ref o_43.2.2.2.2.1]) (rest := []) ⟨hx, hb, hml, hown, hts⟩ (c_T_become l D [(cM, .object R_C), (cH, .int), (cW, .boolean), (cL, .int), (cB, .int), (cS, .object R_T)] _ (q 6) o_43.2.2.2.2.1 σ.2.2.2.2.2.2.1 o_52 v79 hc79) (cwV 1 hts (zg_V k_208 k_209 k_210 k_30 g_T_become) rfl rfl rfl ⟨rfl, hd_T_become⟩ ⟨Nat.le_of_ble_eq_true rfl, Nat.le_of_ble_eq_true rfl⟩) ⟨zrw_b _, va_recv hK hP (q0 := 6) rfl rfl, zrw_p hP hD hK hN [6] [15 + ko_52] hWc hRc (by simp [va_nd] <;> omega) _⟩ rfl rfl hl.1 rfl (lv_room (Nat.le_of_ble_eq_true rfl)) d_V_change_79 ⟨Nat.le_of_ble_eq_true rfl, Nat.le_of_ble_eq_true rfl⟩) hP hD hS hA [6] [15 + ko_52] hWc hRc rfl (fun H locs hP hD hS => ?_)
              have hP : va_P D vwCl ([(q 0, .inr (3, [.ref (q 1), .int σ.1, .ref (q 2), .ref (q 3), .ref (q 4), .int σ.2.1, .ref (q 5), .ref (q 7), .ref (q 6), .ref (q 9)])), (q 1, .inl (cM, 60, .inr (.inr (.inr (.inr σ.2.2.1))))), (q 2, .inl (cH, 4, .inl σ.2.2.2.1)), (q 3, .inl (cW, 4, .inl σ.2.2.2.2.1)), (q 4, .inl (cL, 100, .inl σ.2.2.2.2.2.1)), (q 5, zcT em), (q 6, zcT v79), (q 7, .inr (2, [.ref (q 8)])), (q 8, .inl (cB, 16, .inl σ.2.2.2.2.2.2.2.1)), (q 9, .inl (cS, 5, .inr (.inr (.inr (.inr (zbs q)))))), (q 10, zcT σ.2.2.2.2.2.2.2.2.1), (q 11, zcT σ.2.2.2.2.2.2.2.2.2.1), (q 12, zcT σ.2.2.2.2.2.2.2.2.2.2.1), (q 13, zcT σ.2.2.2.2.2.2.2.2.2.2.2.1), (q 14, zcT σ.2.2.2.2.2.2.2.2.2.2.2.2)] ++ pl) H := hP
              have hD : va_D A ([(q 0, .inr (3, [.ref (q 1), .int σ.1, .ref (q 2), .ref (q 3), .ref (q 4), .int σ.2.1, .ref (q 5), .ref (q 7), .ref (q 6), .ref (q 9)])), (q 1, .inl (cM, 60, .inr (.inr (.inr (.inr σ.2.2.1))))), (q 2, .inl (cH, 4, .inl σ.2.2.2.1)), (q 3, .inl (cW, 4, .inl σ.2.2.2.2.1)), (q 4, .inl (cL, 100, .inl σ.2.2.2.2.2.1)), (q 5, zcT em), (q 6, zcT v79), (q 7, .inr (2, [.ref (q 8)])), (q 8, .inl (cB, 16, .inl σ.2.2.2.2.2.2.2.1)), (q 9, .inl (cS, 5, .inr (.inr (.inr (.inr (zbs q)))))), (q 10, zcT σ.2.2.2.2.2.2.2.2.1), (q 11, zcT σ.2.2.2.2.2.2.2.2.2.1), (q 12, zcT σ.2.2.2.2.2.2.2.2.2.2.1), (q 13, zcT σ.2.2.2.2.2.2.2.2.2.2.2.1), (q 14, zcT σ.2.2.2.2.2.2.2.2.2.2.2.2)] ++ pl) := hD
              refine lv_aload_n hx hb d_V_change_82 rfl (lv_at hl 2 rfl) ?_
              refine va_get (D := D) (ci := 3) (v := .ref (q 6)) (C := R_V) (T := T_V) (N := 10) hx hb hts in_V hown hK hP (0) rfl rfl 8 (by decide) (hts _ k_144) (fun _ h9 => h9) rfl d_V_change_83 ?_
              refine lv_iload_n hx hb d_V_change_86 rfl (lv_at hl 4 rfl) ?_
              refine lv_lload_n hx hb d_V_change_87 rfl (lv_at hl 5 rfl) ?_
              refine lv_aload_n hx hb d_V_change_88 rfl (lv_at hl 2 rfl) ?_
              refine va_get (D := D) (ci := 3) (v := .int σ.1) (C := R_V) (T := T_V) (N := 10) hx hb hts in_V hown hK hP (0) rfl rfl 1 (by decide) (hts _ k_137) (fun _ h9 => h9) rfl d_V_change_89 ?_
              refine lv_iconst (v := 1) hx hb d_V_change_92 (by decide) ?_
              refine lv_iadd hx hb d_V_change_93 ?_
              obtain ⟨v94, hc94, hres⟩ := zl_b (0, 0) hres
              have hWc : ([6] : List Nat).map (fun i => ([(q 0, .inr (3, [.ref (q 1), .int σ.1, .ref (q 2), .ref (q 3), .ref (q 4), .int σ.2.1, .ref (q 5), .ref (q 7), .ref (q 6), .ref (q 9)])), (q 1, .inl (cM, 60, .inr (.inr (.inr (.inr σ.2.2.1))))), (q 2, .inl (cH, 4, .inl σ.2.2.2.1)), (q 3, .inl (cW, 4, .inl σ.2.2.2.2.1)), (q 4, .inl (cL, 100, .inl σ.2.2.2.2.2.1)), (q 5, zcT em), (q 6, zcT v79), (q 7, .inr (2, [.ref (q 8)])), (q 8, .inl (cB, 16, .inl σ.2.2.2.2.2.2.2.1)), (q 9, .inl (cS, 5, .inr (.inr (.inr (.inr (zbs q)))))), (q 10, zcT σ.2.2.2.2.2.2.2.2.1), (q 11, zcT σ.2.2.2.2.2.2.2.2.2.1), (q 12, zcT σ.2.2.2.2.2.2.2.2.2.2.1), (q 13, zcT σ.2.2.2.2.2.2.2.2.2.2.2.1), (q 14, zcT σ.2.2.2.2.2.2.2.2.2.2.2.2)] ++ pl)[i]?) = ([(q 6, zcT v79)] : va_W).map some := (zcons rfl znil)
              have hRc : ([] : List Nat).map (fun i => ([(q 0, .inr (3, [.ref (q 1), .int σ.1, .ref (q 2), .ref (q 3), .ref (q 4), .int σ.2.1, .ref (q 5), .ref (q 7), .ref (q 6), .ref (q 9)])), (q 1, .inl (cM, 60, .inr (.inr (.inr (.inr σ.2.2.1))))), (q 2, .inl (cH, 4, .inl σ.2.2.2.1)), (q 3, .inl (cW, 4, .inl σ.2.2.2.2.1)), (q 4, .inl (cL, 100, .inl σ.2.2.2.2.2.1)), (q 5, zcT em), (q 6, zcT v79), (q 7, .inr (2, [.ref (q 8)])), (q 8, .inl (cB, 16, .inl σ.2.2.2.2.2.2.2.1)), (q 9, .inl (cS, 5, .inr (.inr (.inr (.inr (zbs q)))))), (q 10, zcT σ.2.2.2.2.2.2.2.2.1), (q 11, zcT σ.2.2.2.2.2.2.2.2.2.1), (q 12, zcT σ.2.2.2.2.2.2.2.2.2.2.1), (q 13, zcT σ.2.2.2.2.2.2.2.2.2.2.2.1), (q 14, zcT σ.2.2.2.2.2.2.2.2.2.2.2.2)] ++ pl)[i]?) = ([] : va_W).map some := znil
              refine zd_v (wcw := [(q 6, zcT v79)]) (wro := []) (w1w := [(q 6, zcT v94)]) (va_runS (As := [.ref (q 6), .int j, .long x, .int (σ.1 + 1)]) (rest := []) ⟨hx, hb, hml, hown, hts⟩ (c_H_apply l D [(cM, .object R_C), (cH, .int), (cW, .boolean), (cL, .int), (cB, .int), (cS, .object R_T)] _ (q 6) v79 j x (σ.1 + 1) v94 hc94) (va_cwS 4 hts (zg_S k_212 k_213 k_33 g_H_apply) rfl rfl rfl hd_H_apply ⟨Nat.le_of_ble_eq_true rfl, Nat.le_of_ble_eq_true rfl⟩) ⟨zrw_b _, zrw_p hP hD hK hN [6] [] hWc hRc (by decide) _⟩ rfl rfl hl.1 rfl (lv_room (Nat.le_of_ble_eq_true rfl)) d_V_change_94 ⟨Nat.le_of_ble_eq_true rfl, Nat.le_of_ble_eq_true rfl⟩) hP hD hS hA [6] [] hWc hRc rfl (fun H locs hP hD hS => ?_)
              have hP : va_P D vwCl ([(q 0, .inr (3, [.ref (q 1), .int σ.1, .ref (q 2), .ref (q 3), .ref (q 4), .int σ.2.1, .ref (q 5), .ref (q 7), .ref (q 6), .ref (q 9)])), (q 1, .inl (cM, 60, .inr (.inr (.inr (.inr σ.2.2.1))))), (q 2, .inl (cH, 4, .inl σ.2.2.2.1)), (q 3, .inl (cW, 4, .inl σ.2.2.2.2.1)), (q 4, .inl (cL, 100, .inl σ.2.2.2.2.2.1)), (q 5, zcT em), (q 6, zcT v94), (q 7, .inr (2, [.ref (q 8)])), (q 8, .inl (cB, 16, .inl σ.2.2.2.2.2.2.2.1)), (q 9, .inl (cS, 5, .inr (.inr (.inr (.inr (zbs q)))))), (q 10, zcT σ.2.2.2.2.2.2.2.2.1), (q 11, zcT σ.2.2.2.2.2.2.2.2.2.1), (q 12, zcT σ.2.2.2.2.2.2.2.2.2.2.1), (q 13, zcT σ.2.2.2.2.2.2.2.2.2.2.2.1), (q 14, zcT σ.2.2.2.2.2.2.2.2.2.2.2.2)] ++ pl) H := hP
              have hD : va_D A ([(q 0, .inr (3, [.ref (q 1), .int σ.1, .ref (q 2), .ref (q 3), .ref (q 4), .int σ.2.1, .ref (q 5), .ref (q 7), .ref (q 6), .ref (q 9)])), (q 1, .inl (cM, 60, .inr (.inr (.inr (.inr σ.2.2.1))))), (q 2, .inl (cH, 4, .inl σ.2.2.2.1)), (q 3, .inl (cW, 4, .inl σ.2.2.2.2.1)), (q 4, .inl (cL, 100, .inl σ.2.2.2.2.2.1)), (q 5, zcT em), (q 6, zcT v94), (q 7, .inr (2, [.ref (q 8)])), (q 8, .inl (cB, 16, .inl σ.2.2.2.2.2.2.2.1)), (q 9, .inl (cS, 5, .inr (.inr (.inr (.inr (zbs q)))))), (q 10, zcT σ.2.2.2.2.2.2.2.2.1), (q 11, zcT σ.2.2.2.2.2.2.2.2.2.1), (q 12, zcT σ.2.2.2.2.2.2.2.2.2.2.1), (q 13, zcT σ.2.2.2.2.2.2.2.2.2.2.2.1), (q 14, zcT σ.2.2.2.2.2.2.2.2.2.2.2.2)] ++ pl) := hD
              refine lv_aload_n hx hb d_V_change_97 rfl (lv_at hl 2 rfl) ?_
              refine lv_iload_n hx hb d_V_change_98 rfl (lv_at hl 3 rfl) ?_
              refine lv_aload hx hb d_V_change_99 (lv_at hl 1 rfl) ?_
              refine lv_null hx hb d_V_change_101 ?_
              obtain ⟨v102, hc102, hres⟩ := zl_c hres
              refine zx_i (post := fun u => (v102 u).1) (ws' := fun u => zX q cM cH cW cL cB cS em (v102 u).2.1 ++ zpn pl u (v102 u).2.2) (va_runV (As := [.int k, .ref y_24, .null]) (rest := []) ⟨hx, hb, hml, hown, hts⟩ (c_V_commitDraft_rn l D [(cM, .object R_C), (cH, .int), (cW, .boolean), (cL, .int), (cB, .int), (cS, .object R_T)] _ q cM cH cW cL cB cS em pl cm tm hpl (σ.1, σ.2.1, σ.2.2.1, σ.2.2.2.1, σ.2.2.2.2.1, σ.2.2.2.2.2.1, v94, σ.2.2.2.2.2.2.2.1, σ.2.2.2.2.2.2.2.2.1, σ.2.2.2.2.2.2.2.2.2.1, σ.2.2.2.2.2.2.2.2.2.2.1, σ.2.2.2.2.2.2.2.2.2.2.2.1, σ.2.2.2.2.2.2.2.2.2.2.2.2) k y_24 v102 hc102) (cwV 3 hts (zg_V k_221 k_223 k_2 k_29 g_V_commitDraft) rfl rfl rfl ⟨rfl, hd_V_commitDraft⟩ ⟨Nat.le_of_ble_eq_true rfl, Nat.le_of_ble_eq_true rfl⟩) ⟨zrw_b _, va_recv hK hP (q0 := 0) rfl rfl, zrw_w hP hD hK hN _⟩ rfl rfl hl.1 rfl (lv_room (Nat.le_of_ble_eq_true rfl)) d_V_change_102 ⟨Nat.le_of_ble_eq_true rfl, Nat.le_of_ble_eq_true rfl⟩) hD hS hA (fun qn H locs hP hD hS => ?_)
              have hres := hres qn
              generalize v102 qn = v102 at hP hD hres ⊢
              have hP : va_P D vwCl (zX q cM cH cW cL cB cS em v102.2.1 ++ (zpn pl qn v102.2.2)) H := hP
              have hD : va_D A (zX q cM cH cW cL cB cS em v102.2.1 ++ (zpn pl qn v102.2.2)) := hD
              have e9 := Option.some.inj (hres)
              refine W.widen (k := 2) (n := 17) (by omega) (by omega) ?_
              exact W.iret (v := v102.1) hx hb hr (fun t ht hW => ⟨⟨_, qn, rfl, congrArg Prod.fst e9, by show va_P D vwCl (zX q cM cH cW cL cB cS em (v qn).2.1 ++ zpn pl qn (v qn).2.2) t.heap; rw [ht, ← e9]; exact hP, va_K.moved hW.alike hK, by show va_D A (zX q cM cH cW cL cB cS em (v qn).2.1 ++ zpn pl qn (v qn).2.2); rw [← e9]; exact hD⟩, hS.F ht⟩) hS.2.2 d_V_change_105
            · have hres := zl_n c_67 hres
              refine lv_bipush (v := (-2)) hx hb d_V_change_70 (by decide) ?_
              have e9 := Option.some.inj (hres (0, 0))
              refine W.widen (k := 2) (n := 17) (by omega) (by omega) ?_
              exact W.iret (v := (-2)) hx hb hr (fun t ht hW => ⟨⟨_, (0, 0), rfl, congrArg Prod.fst e9, by show va_P D vwCl (zX q cM cH cW cL cB cS em (v (0, 0)).2.1 ++ zpn pl (0, 0) (v (0, 0)).2.2) t.heap; rw [ht, ← e9]; exact hP, va_K.moved hW.alike hK, by show va_D A (zX q cM cH cW cL cB cS em (v (0, 0)).2.1 ++ zpn pl (0, 0) (v (0, 0)).2.2); rw [← e9]; exact hD⟩, hS.F ht⟩) hS.2.2 d_V_change_72
          · have hres := zl_p c_55 hres
            refine lv_bipush (v := (-3)) hx hb d_V_change_58 (by decide) ?_
            have e9 := Option.some.inj (hres (0, 0))
            refine W.widen (k := 2) (n := 17) (by omega) (by omega) ?_
            exact W.iret (v := (-3)) hx hb hr (fun t ht hW => ⟨⟨_, (0, 0), rfl, congrArg Prod.fst e9, by show va_P D vwCl (zX q cM cH cW cL cB cS em (v (0, 0)).2.1 ++ zpn pl (0, 0) (v (0, 0)).2.2) t.heap; rw [ht, ← e9]; exact hP, va_K.moved hW.alike hK, by show va_D A (zX q cM cH cW cL cB cS em (v (0, 0)).2.1 ++ zpn pl (0, 0) (v (0, 0)).2.2); rw [← e9]; exact hD⟩, hS.F ht⟩) hS.2.2 d_V_change_60
      · exact absurd (zl_n ck_23 hres (0, 0)) (by simp)
    · have hres := zl_p c_12 hres
      refine lv_iconst (v := (-1)) hx hb d_V_change_15 (by decide) ?_
      have e9 := Option.some.inj (hres (0, 0))
      refine W.widen (k := 2) (n := 17) (by omega) (by omega) ?_
      exact W.iret (v := (-1)) hx hb hr (fun t ht hW => ⟨⟨_, (0, 0), rfl, congrArg Prod.fst e9, by show va_P D vwCl (zX q cM cH cW cL cB cS em (v (0, 0)).2.1 ++ zpn pl (0, 0) (v (0, 0)).2.2) t.heap; rw [ht, ← e9]; exact hP, va_K.moved hW.alike hK, by show va_D A (zX q cM cH cW cL cB cS em (v (0, 0)).2.1 ++ zpn pl (0, 0) (v (0, 0)).2.2); rw [← e9]; exact hD⟩, hS.F ht⟩) hS.2.2 d_V_change_16
abbrev qd_V_merge (D : va_G) (tys : List (ClassId × FieldType)) (q : Nat → Nat) (cM : ClassId) (cH : ClassId) (cW : ClassId) (cL : ClassId) (cB : ClassId) (cS : ClassId) (em : TreeV) (pl : va_W) (cm : Nat → Option ComV) (tm : Nat → Option TreeV) (σ : VSt) (k : Int32) (j : Int32) (v : Nat × Nat → Int32 × VSt × (Option (ComV × TreeV))) (A : Nat → Prop) : Array Value → State → Outcome → State → Prop := va_Qi (fun (r : Int32) (u : Nat × Nat) => r = (v u).1) (fun u t => zwd D [(cM, .object R_C), (cH, .int), (cW, .boolean), (cL, .int), (cB, .int), (cS, .object R_T)] (A) (zX q cM cH cW cL cB cS em (v u).2.1 ++ zpn pl u (v u).2.2) t) (A)

def f_V_merge (qn : Nat × Nat) (em : TreeV) (cm : Nat → Option ComV) (tm : Nat → Option TreeV) (σ : VSt) (k : Int32) (j : Int32) : Option (Int32 × VSt × (Option (ComV × TreeV))) :=
  Option.bind (f_V_isBranch k) (fun v1 =>
    if v1 = 0 then
      some ((-1), σ, none)
    else
      Option.bind (f_V_isBranch j) (fun v8 =>
        if v8 = 0 then
          some ((-1), σ, none)
        else
          if zin k 4 then
            Option.bind (f_V_commitAt em cm tm σ (σ.2.2.2.1 k.toNatClampNeg)) (fun v23 =>
              zo_m (v23) (
                some ((-1), σ, none)) (fun y_23 =>
                if zin j 4 then
                  Option.bind (f_V_commitAt em cm tm σ (σ.2.2.2.1 j.toNatClampNeg)) (fun v40 =>
                    zo_m (v40) (
                      Option.bind (cm y_23) (fun o_62 =>
                        Option.bind (f_V_moveHead em cm tm σ j o_62.1) (fun v65 =>
                          some (o_62.1, v65, none)))) (fun y_40 =>
                      Option.bind (cm y_23) (fun o_53 =>
                        Option.bind (cm y_40) (fun o_53' =>
                          Option.bind (f_C_descendsFrom o_53 o_53') (fun v53 =>
                            if v53 = 0 then
                              Option.bind (f_C_descendsFrom o_53' o_53) (fun v76 =>
                                if v76 = 0 then
                                  if σ.1 < 60 then
                                    Option.bind (f_V_draftMerging em cm tm σ y_40 y_23) (fun v104 =>
                                      if v104.1 = 0 then
                                        Option.bind (f_V_commitDraft_rr qn em cm tm v104.2 j y_40 y_23) (fun v122 =>
                                          some (v122.1, v122.2.1, v122.2.2))
                                      else
                                        some (v104.1, v104.2, none))
                                  else
                                    some ((-2), σ, none)
                                else
                                  some (o_53'.1, σ, none))
                            else
                              Option.bind (f_V_moveHead em cm tm σ j o_53.1) (fun v65 =>
                                some (o_53.1, v65, none)))))))
                else
                  none))
          else
            none))
set_option maxHeartbeats 4000000 in
set_option maxRecDepth 100000 in
theorem c_V_merge (l : Launch) (D : va_G) (tys : List (ClassId × FieldType)) (sz : Nat) (q : Nat → Nat) (cM : ClassId) (cH : ClassId) (cW : ClassId) (cL : ClassId) (cB : ClassId) (cS : ClassId) (em : TreeV) (pl : va_W) (cm : Nat → Option ComV) (tm : Nat → Option TreeV) (hpl : zpool pl cm tm) (σ : VSt) (k : Int32) (j : Int32) (v : Nat × Nat → Int32 × VSt × (Option (ComV × TreeV))) (hres : ∀ qn : Nat × Nat, f_V_merge qn em cm tm σ k j = some (v qn)) : Met l y_V_merge w_V_merge ({ frames := 9, cells := 2, slots := 17, locals := 241 } : Room) (va_Pc ([.ref (q 0), .int k, .int j]) (zrw D [(cM, .object R_C), (cH, .int), (cW, .boolean), (cL, .int), (cB, .int), (cS, .object R_T)] sz (zX q cM cH cW cL cB cS em σ ++ pl))) (qd_V_merge D tys q cM cH cW cL cB cS em pl cm tm σ k j v (va_A (zX q cM cH cW cL cB cS em σ ++ pl) sz)) 2 17 (va_A (zX q cM cH cW cL cB cS em σ ++ pl) sz) := by
  refine Met.ofW (cc := b_V_merge) (maxL := 6) (ret := (some .int)) (by decide) rfl ?_
  intro p e s m args below meth c s₁ B hml hv
  obtain ⟨rfl, hsz, hP, hK, hD0, hN⟩ := hv
  have hx := B.exec
  have hb := B.bytes
  have hr := B.returns
  have hts : ∀ w ∈ zt, w.before ([.ref (q 0), .int k, .int j].toArray) s = true := fun w h => atoms_spec (ws := w_V_merge) B.pre w (List.mem_cons_of_mem _ h)
  have hown : s.vm.findClass R_V = some m.cls := findClass_of_methodNamed B.named
  have hlocks := B.notSynchronized
  subst hsz
  have hD := hD0.self (sz := s.heap.size)
  generalize hAe : va_A (zX q cM cH cW cL cB cS em σ ++ pl) s.heap.size = A at hD ⊢
  have hA : ∀ q : Nat, s.heap.size ≤ q → A q := fun q h => by rw [← hAe]; exact Or.inr h
  have hS : va_S A s.heap s.heap [] := va_S.rf
  have hP : va_P D vwCl (zX q cM cH cW cL cB cS em σ ++ pl) s.heap := hP
  have hD : va_D A (zX q cM cH cW cL cB cS em σ ++ pl) := hD
  have hl := lv_entry ([.ref (q 0), .int k, .int j]) (n := 6) (Nat.le_of_ble_eq_true rfl)
  rw [lg_entry_eq]
  generalize (lg_sl ([.ref (q 0), .int k, .int j]) ++ List.replicate (6 - (lg_sl ([.ref (q 0), .int k, .int j])).length) Slot.unset).toArray = ls at hl ⊢
  have hl : lv_has ls 6 [(0, .ref (q 0)), (1, .int k), (2, .int j)] := hl
  unfold f_V_merge at hres
  refine lv_iload_n hx hb d_V_merge_0 rfl (lv_at hl 1 rfl) ?_
  obtain ⟨v1, hc1, hres⟩ := zl_b (0, 0) hres
  refine vp_callSi (va_Run.run (va_runS (As := [.int k]) (rest := []) ⟨hx, hb, hml, hown, hts⟩ (c_V_isBranch l D [(cM, .object R_C), (cH, .int), (cW, .boolean), (cL, .int), (cB, .int), (cS, .object R_T)] k v1 hc1) (va_cwS 1 hts (zg_S k_171 k_172 k_29 g_V_isBranch) rfl rfl rfl hd_V_isBranch ⟨Nat.le_of_ble_eq_true rfl, Nat.le_of_ble_eq_true rfl⟩) ⟨zro_b _, zro_p va_Pnil hK hN _⟩ rfl rfl hl.1 rfl (lv_room (Nat.le_of_ble_eq_true rfl)) d_V_merge_1 ⟨Nat.le_of_ble_eq_true rfl, Nat.le_of_ble_eq_true rfl⟩)) (fun r_1 er_1 => ?_)
  have er_1 := er_1.symm
  subst er_1
  refine lv_if_eq (tgt := 14) hx hb d_V_merge_4 (by decide) (fun c_4 => ?_) (fun c_4 => ?_)
  · have hres := zl_p c_4 hres
    refine lv_iconst (v := (-1)) hx hb d_V_merge_14 (by decide) ?_
    have e9 := Option.some.inj (hres (0, 0))
    refine W.widen (k := 2) (n := 17) (by omega) (by omega) ?_
    exact W.iret (v := (-1)) hx hb hr (fun t ht hW => ⟨⟨_, (0, 0), rfl, congrArg Prod.fst e9, by show va_P D vwCl (zX q cM cH cW cL cB cS em (v (0, 0)).2.1 ++ zpn pl (0, 0) (v (0, 0)).2.2) t.heap; rw [ht, ← e9]; exact hP, va_K.moved hW.alike hK, by show va_D A (zX q cM cH cW cL cB cS em (v (0, 0)).2.1 ++ zpn pl (0, 0) (v (0, 0)).2.2); rw [← e9]; exact hD⟩, hS.F ht⟩) hS.2.2 d_V_merge_15
  · have hres := zl_n c_4 hres
    refine lv_iload_n hx hb d_V_merge_7 rfl (lv_at hl 2 rfl) ?_
    obtain ⟨v8, hc8, hres⟩ := zl_b (0, 0) hres
    refine vp_callSi (va_Run.run (va_runS (As := [.int j]) (rest := []) ⟨hx, hb, hml, hown, hts⟩ (c_V_isBranch l D [(cM, .object R_C), (cH, .int), (cW, .boolean), (cL, .int), (cB, .int), (cS, .object R_T)] j v8 hc8) (va_cwS 1 hts (zg_S k_171 k_172 k_29 g_V_isBranch) rfl rfl rfl hd_V_isBranch ⟨Nat.le_of_ble_eq_true rfl, Nat.le_of_ble_eq_true rfl⟩) ⟨zro_b _, zro_p va_Pnil hK hN _⟩ rfl rfl hl.1 rfl (lv_room (Nat.le_of_ble_eq_true rfl)) d_V_merge_8 ⟨Nat.le_of_ble_eq_true rfl, Nat.le_of_ble_eq_true rfl⟩)) (fun r_8 er_8 => ?_)
    have er_8 := er_8.symm
    subst er_8
    refine lv_if_ne (tgt := 16) hx hb d_V_merge_11 (by decide) (fun c_11 => ?_) (fun c_11 => ?_)
    · have hres := zl_n c_11 hres
      refine lv_aload_n hx hb d_V_merge_16 rfl (lv_at hl 0 rfl) ?_
      refine lv_aload_n hx hb d_V_merge_17 rfl (lv_at hl 0 rfl) ?_
      refine va_get (D := D) (ci := 3) (v := .ref (q 2)) (C := R_V) (T := T_V) (N := 10) hx hb hts in_V hown hK hP (0) rfl rfl 2 (by decide) (hts _ k_138) (fun _ h9 => h9) rfl d_V_merge_18 ?_
      refine lv_iload_n hx hb d_V_merge_21 rfl (lv_at hl 1 rfl) ?_
      by_cases ck_22 : zin k 4
      · have hres := zl_p ck_22 hres
        refine va_iald hx hb hK hP 2 1 rfl rfl ck_22 d_V_merge_22 ?_
        obtain ⟨v23, hc23, hres⟩ := zl_b (0, 0) hres
        refine va_csq (va_Run.run (va_runV (As := [.int (σ.2.2.2.1 k.toNatClampNeg)]) (rest := []) ⟨hx, hb, hml, hown, hts⟩ (c_V_commitAt l D [(cM, .object R_C), (cH, .int), (cW, .boolean), (cL, .int), (cB, .int), (cS, .object R_T)] q cM cH cW cL cB cS em pl cm tm hpl σ (σ.2.2.2.1 k.toNatClampNeg) v23 hc23) (cwV 1 hts (zg_V k_179 k_181 k_0 k_29 g_V_commitAt) rfl rfl rfl ⟨rfl, hd_V_commitAt⟩ ⟨Nat.le_of_ble_eq_true rfl, Nat.le_of_ble_eq_true rfl⟩) ⟨zro_b _, va_recv hK hP (q0 := 0) rfl rfl, zro_p hP hK hN _⟩ rfl rfl hl.1 rfl (lv_room (Nat.le_of_ble_eq_true rfl)) d_V_merge_23 ⟨Nat.le_of_ble_eq_true rfl, Nat.le_of_ble_eq_true rfl⟩)) (fun r_23 er_23 => ?_)
        have er_23 := er_23.symm
        subst er_23
        rcases hq_23 : v23 with _ | y_23
        · have hres := zl_on hq_23 hres
          refine lv_astore_nN (lv' := [(3, .null), (0, .ref (q 0)), (1, .int k), (2, .int j)]) hx hb d_V_merge_26 rfl hl (by decide) rfl (fun ls hl => ?_)
          refine lv_aload_nN hx hb d_V_merge_27 rfl (lv_at hl 0 rfl) ?_
          refine lv_ifnonnullN hx hb d_V_merge_28 ?_
          refine lv_iconst (v := (-1)) hx hb d_V_merge_31 (by decide) ?_
          have e9 := Option.some.inj (hres (0, 0))
          refine W.widen (k := 2) (n := 17) (by omega) (by omega) ?_
          exact W.iret (v := (-1)) hx hb hr (fun t ht hW => ⟨⟨_, (0, 0), rfl, congrArg Prod.fst e9, by show va_P D vwCl (zX q cM cH cW cL cB cS em (v (0, 0)).2.1 ++ zpn pl (0, 0) (v (0, 0)).2.2) t.heap; rw [ht, ← e9]; exact hP, va_K.moved hW.alike hK, by show va_D A (zX q cM cH cW cL cB cS em (v (0, 0)).2.1 ++ zpn pl (0, 0) (v (0, 0)).2.2); rw [← e9]; exact hD⟩, hS.F ht⟩) hS.2.2 d_V_merge_32
        · have hres := zl_os hq_23 hres
          refine lv_astore_n (lv' := [(3, .ref y_23), (0, .ref (q 0)), (1, .int k), (2, .int j)]) hx hb d_V_merge_26 rfl hl (by decide) rfl (fun ls hl => ?_)
          refine lv_aload_n hx hb d_V_merge_27 rfl (lv_at hl 0 rfl) ?_
          refine lv_ifnonnull (tgt := 33) hx hb d_V_merge_28 (by decide) ?_
          refine lv_aload_n hx hb d_V_merge_33 rfl (lv_at hl 1 rfl) ?_
          refine lv_aload_n hx hb d_V_merge_34 rfl (lv_at hl 1 rfl) ?_
          refine va_get (D := D) (ci := 3) (v := .ref (q 2)) (C := R_V) (T := T_V) (N := 10) hx hb hts in_V hown hK hP (0) rfl rfl 2 (by decide) (hts _ k_138) (fun _ h9 => h9) rfl d_V_merge_35 ?_
          refine lv_iload_n hx hb d_V_merge_38 rfl (lv_at hl 3 rfl) ?_
          by_cases ck_39 : zin j 4
          · have hres := zl_p ck_39 hres
            refine va_iald hx hb hK hP 2 1 rfl rfl ck_39 d_V_merge_39 ?_
            obtain ⟨v40, hc40, hres⟩ := zl_b (0, 0) hres
            refine va_csq (va_Run.run (va_runV (As := [.int (σ.2.2.2.1 j.toNatClampNeg)]) (rest := []) ⟨hx, hb, hml, hown, hts⟩ (c_V_commitAt l D [(cM, .object R_C), (cH, .int), (cW, .boolean), (cL, .int), (cB, .int), (cS, .object R_T)] q cM cH cW cL cB cS em pl cm tm hpl σ (σ.2.2.2.1 j.toNatClampNeg) v40 hc40) (cwV 1 hts (zg_V k_179 k_181 k_0 k_29 g_V_commitAt) rfl rfl rfl ⟨rfl, hd_V_commitAt⟩ ⟨Nat.le_of_ble_eq_true rfl, Nat.le_of_ble_eq_true rfl⟩) ⟨zro_b _, va_recv hK hP (q0 := 0) rfl rfl, zro_p hP hK hN _⟩ rfl rfl hl.1 rfl (lv_room (Nat.le_of_ble_eq_true rfl)) d_V_merge_40 ⟨Nat.le_of_ble_eq_true rfl, Nat.le_of_ble_eq_true rfl⟩)) (fun r_40 er_40 => ?_)
            have er_40 := er_40.symm
            subst er_40
            rcases hq_40 : v40 with _ | y_40
            · have hres := zl_on hq_40 hres
              refine lv_astoreN (lv' := [(4, .null), (3, .ref y_23), (0, .ref (q 0)), (1, .int k), (2, .int j)]) hx hb d_V_merge_43 hl (by decide) rfl (fun ls hl => ?_)
              refine lv_aloadN hx hb d_V_merge_45 (lv_at hl 0 rfl) ?_
              refine lv_ifnullN (tgt := 59) hx hb d_V_merge_47 (by decide) ?_
              refine lv_aload_n hx hb d_V_merge_59 rfl (lv_at hl 2 rfl) ?_
              refine lv_iload_n hx hb d_V_merge_60 rfl (lv_at hl 4 rfl) ?_
              refine lv_aload_n hx hb d_V_merge_61 rfl (lv_at hl 1 rfl) ?_
              obtain ⟨o_62, ho_62, hres⟩ := zl_b (0, 0) hres
              obtain ⟨ko_62, hko_62⟩ := hpl.1 _ _ ho_62
              refine va_get (D := D) (ci := 1) (v := .int o_62.1) (C := R_C) (T := T_C) (N := 7) hx hb hts in_C hown hK hP (15 + ko_62) (zpl_get hko_62) rfl 0 (by decide) (hts _ k_251) (fun _ h9 => h9) rfl d_V_merge_62 ?_
              obtain ⟨v65, hc65, hres⟩ := zl_b (0, 0) hres
              refine zw_v (ws' := zX q cM cH cW cL cB cS em v65 ++ pl) (va_runV (As := [.int j, .int o_62.1]) (rest := []) ⟨hx, hb, hml, hown, hts⟩ (c_V_moveHead l D [(cM, .object R_C), (cH, .int), (cW, .boolean), (cL, .int), (cB, .int), (cS, .object R_T)] _ q cM cH cW cL cB cS em pl cm tm hpl σ j o_62.1 v65 hc65) (cwV 2 hts (zg_V k_279 k_281 k_3 k_29 g_V_moveHead) rfl rfl rfl ⟨rfl, hd_V_moveHead⟩ ⟨Nat.le_of_ble_eq_true rfl, Nat.le_of_ble_eq_true rfl⟩) ⟨zrw_b _, va_recv hK hP (q0 := 0) rfl rfl, zrw_w hP hD hK hN _⟩ rfl rfl hl.1 rfl (lv_room (Nat.le_of_ble_eq_true rfl)) d_V_merge_65 ⟨Nat.le_of_ble_eq_true rfl, Nat.le_of_ble_eq_true rfl⟩) hD hS hA (fun H locs hP hD hS => ?_)
              have hP : va_P D vwCl (zX q cM cH cW cL cB cS em v65 ++ pl) H := hP
              have hD : va_D A (zX q cM cH cW cL cB cS em v65 ++ pl) := hD
              refine lv_aload_n hx hb d_V_merge_68 rfl (lv_at hl 1 rfl) ?_
              refine va_get (D := D) (ci := 1) (v := .int o_62.1) (C := R_C) (T := T_C) (N := 7) hx hb hts in_C hown hK hP (15 + ko_62) (zpl_get hko_62) rfl 0 (by decide) (hts _ k_251) (fun _ h9 => h9) rfl d_V_merge_69 ?_
              have e9 := Option.some.inj (hres (0, 0))
              refine W.widen (k := 2) (n := 17) (by omega) (by omega) ?_
              exact W.iret (v := o_62.1) hx hb hr (fun t ht hW => ⟨⟨_, (0, 0), rfl, congrArg Prod.fst e9, by show va_P D vwCl (zX q cM cH cW cL cB cS em (v (0, 0)).2.1 ++ zpn pl (0, 0) (v (0, 0)).2.2) t.heap; rw [ht, ← e9]; exact hP, va_K.moved hW.alike hK, by show va_D A (zX q cM cH cW cL cB cS em (v (0, 0)).2.1 ++ zpn pl (0, 0) (v (0, 0)).2.2); rw [← e9]; exact hD⟩, hS.F ht⟩) hS.2.2 d_V_merge_72
            · have hres := zl_os hq_40 hres
              refine lv_astore (lv' := [(4, .ref y_40), (3, .ref y_23), (0, .ref (q 0)), (1, .int k), (2, .int j)]) hx hb d_V_merge_43 hl (by decide) rfl (fun ls hl => ?_)
              refine lv_aload hx hb d_V_merge_45 (lv_at hl 0 rfl) ?_
              refine lv_ifnull hx hb d_V_merge_47 ?_
              refine lv_aload_n hx hb d_V_merge_50 rfl (lv_at hl 1 rfl) ?_
              refine lv_aload hx hb d_V_merge_51 (lv_at hl 0 rfl) ?_
              obtain ⟨o_53, ho_53, hres⟩ := zl_b (0, 0) hres
              obtain ⟨ko_53, hko_53⟩ := hpl.1 _ _ ho_53
              obtain ⟨o_53', ho_53', hres⟩ := zl_b (0, 0) hres
              obtain ⟨ko_53', hko_53'⟩ := hpl.1 _ _ ho_53'
              obtain ⟨v53, hc53, hres⟩ := zl_b (0, 0) hres
              have hPc := zsubP hP (wc := [(y_23, zcC o_53), (y_40, zcC o_53')]) (is := [15 + ko_53, 15 + ko_53']) (zcons (zpl_get hko_53) (zcons (zpl_get hko_53') znil))
              refine vp_callSi (va_Run.run (va_runV (As := [.ref y_40]) (rest := []) ⟨hx, hb, hml, hown, hts⟩ (c_C_descendsFrom l D [(cM, .object R_C), (cH, .int), (cW, .boolean), (cL, .int), (cB, .int), (cS, .object R_T)] y_23 y_40 o_53 o_53' v53 hc53) (cwV 1 hts (zg_V k_295 k_296 k_297 k_35 g_C_descendsFrom) rfl rfl rfl ⟨rfl, hd_C_descendsFrom⟩ ⟨Nat.le_of_ble_eq_true rfl, Nat.le_of_ble_eq_true rfl⟩) ⟨zro_b _, va_recv hK hPc (q0 := 0) rfl rfl, zro_p hPc hK hN _⟩ rfl rfl hl.1 rfl (lv_room (Nat.le_of_ble_eq_true rfl)) d_V_merge_53 ⟨Nat.le_of_ble_eq_true rfl, Nat.le_of_ble_eq_true rfl⟩)) (fun r_53 er_53 => ?_)
              have er_53 := er_53.symm
              subst er_53
              refine lv_if_eq (tgt := 73) hx hb d_V_merge_56 (by decide) (fun c_56 => ?_) (fun c_56 => ?_)
              · have hres := zl_p c_56 hres
                refine lv_aload hx hb d_V_merge_73 (lv_at hl 0 rfl) ?_
                refine lv_aload_n hx hb d_V_merge_75 rfl (lv_at hl 1 rfl) ?_
                obtain ⟨v76, hc76, hres⟩ := zl_b (0, 0) hres
                have hPc := zsubP hP (wc := [(y_40, zcC o_53'), (y_23, zcC o_53)]) (is := [15 + ko_53', 15 + ko_53]) (zcons (zpl_get hko_53') (zcons (zpl_get hko_53) znil))
                refine vp_callSi (va_Run.run (va_runV (As := [.ref y_23]) (rest := []) ⟨hx, hb, hml, hown, hts⟩ (c_C_descendsFrom l D [(cM, .object R_C), (cH, .int), (cW, .boolean), (cL, .int), (cB, .int), (cS, .object R_T)] y_40 y_23 o_53' o_53 v76 hc76) (cwV 1 hts (zg_V k_295 k_296 k_297 k_35 g_C_descendsFrom) rfl rfl rfl ⟨rfl, hd_C_descendsFrom⟩ ⟨Nat.le_of_ble_eq_true rfl, Nat.le_of_ble_eq_true rfl⟩) ⟨zro_b _, va_recv hK hPc (q0 := 0) rfl rfl, zro_p hPc hK hN _⟩ rfl rfl hl.1 rfl (lv_room (Nat.le_of_ble_eq_true rfl)) d_V_merge_76 ⟨Nat.le_of_ble_eq_true rfl, Nat.le_of_ble_eq_true rfl⟩)) (fun r_76 er_76 => ?_)
                have er_76 := er_76.symm
                subst er_76
                refine lv_if_eq (tgt := 88) hx hb d_V_merge_79 (by decide) (fun c_79 => ?_) (fun c_79 => ?_)
                · have hres := zl_p c_79 hres
                  refine lv_aload_n hx hb d_V_merge_88 rfl (lv_at hl 2 rfl) ?_
                  refine va_get (D := D) (ci := 3) (v := .int σ.1) (C := R_V) (T := T_V) (N := 10) hx hb hts in_V hown hK hP (0) rfl rfl 1 (by decide) (hts _ k_137) (fun _ h9 => h9) rfl d_V_merge_89 ?_
                  refine lv_bipush (v := 60) hx hb d_V_merge_92 (by decide) ?_
                  refine lv_icmp_lt (tgt := 100) hx hb d_V_merge_94 (by decide) (fun c_94 => ?_) (fun c_94 => ?_)
                  · have hres := zl_p c_94 hres
                    refine lv_aload_n hx hb d_V_merge_100 rfl (lv_at hl 2 rfl) ?_
                    refine lv_aload hx hb d_V_merge_101 (lv_at hl 0 rfl) ?_
                    refine lv_aload_n hx hb d_V_merge_103 rfl (lv_at hl 1 rfl) ?_
                    obtain ⟨v104, hc104, hres⟩ := zl_b (0, 0) hres
                    refine zw_i (ws' := zX q cM cH cW cL cB cS em v104.2 ++ pl) (v := v104.1) (va_runV (As := [.ref y_40, .ref y_23]) (rest := []) ⟨hx, hb, hml, hown, hts⟩ (c_V_draftMerging l D [(cM, .object R_C), (cH, .int), (cW, .boolean), (cL, .int), (cB, .int), (cS, .object R_T)] _ q cM cH cW cL cB cS em pl cm tm hpl σ y_40 y_23 v104 hc104) (cwV 2 hts (zg_V k_300 k_302 k_4 k_29 g_V_draftMerging) rfl rfl rfl ⟨rfl, hd_V_draftMerging⟩ ⟨Nat.le_of_ble_eq_true rfl, Nat.le_of_ble_eq_true rfl⟩) ⟨zrw_b _, va_recv hK hP (q0 := 0) rfl rfl, zrw_w hP hD hK hN _⟩ rfl rfl hl.1 rfl (lv_room (Nat.le_of_ble_eq_true rfl)) d_V_merge_104 ⟨Nat.le_of_ble_eq_true rfl, Nat.le_of_ble_eq_true rfl⟩) hD hS hA (fun H locs hP hD hS => ?_)
                    have hP : va_P D vwCl (zX q cM cH cW cL cB cS em v104.2 ++ pl) H := hP
                    have hD : va_D A (zX q cM cH cW cL cB cS em v104.2 ++ pl) := hD
                    refine lv_istore (lv' := [(5, .int v104.1), (4, .ref y_40), (3, .ref y_23), (0, .ref (q 0)), (1, .int k), (2, .int j)]) hx hb d_V_merge_107 hl (by decide) rfl (fun ls hl => ?_)
                    refine lv_iload hx hb d_V_merge_109 (lv_at hl 0 rfl) ?_
                    refine lv_if_eq (tgt := 117) hx hb d_V_merge_111 (by decide) (fun c_111 => ?_) (fun c_111 => ?_)
                    · have hres := zl_p c_111 hres
                      refine lv_aload_n hx hb d_V_merge_117 rfl (lv_at hl 3 rfl) ?_
                      refine lv_iload_n hx hb d_V_merge_118 rfl (lv_at hl 5 rfl) ?_
                      refine lv_aload hx hb d_V_merge_119 (lv_at hl 1 rfl) ?_
                      refine lv_aload_n hx hb d_V_merge_121 rfl (lv_at hl 2 rfl) ?_
                      obtain ⟨v122, hc122, hres⟩ := zl_c hres
                      refine zx_i (post := fun u => (v122 u).1) (ws' := fun u => zX q cM cH cW cL cB cS em (v122 u).2.1 ++ zpn pl u (v122 u).2.2) (va_runV (As := [.int j, .ref y_40, .ref y_23]) (rest := []) ⟨hx, hb, hml, hown, hts⟩ (c_V_commitDraft_rr l D [(cM, .object R_C), (cH, .int), (cW, .boolean), (cL, .int), (cB, .int), (cS, .object R_T)] _ q cM cH cW cL cB cS em pl cm tm hpl v104.2 j y_40 y_23 v122 hc122) (cwV 3 hts (zg_V k_221 k_223 k_2 k_29 g_V_commitDraft) rfl rfl rfl ⟨rfl, hd_V_commitDraft⟩ ⟨Nat.le_of_ble_eq_true rfl, Nat.le_of_ble_eq_true rfl⟩) ⟨zrw_b _, va_recv hK hP (q0 := 0) rfl rfl, zrw_w hP hD hK hN _⟩ rfl rfl hl.1 rfl (lv_room (Nat.le_of_ble_eq_true rfl)) d_V_merge_122 ⟨Nat.le_of_ble_eq_true rfl, Nat.le_of_ble_eq_true rfl⟩) hD hS hA (fun qn H locs hP hD hS => ?_)
                      have hres := hres qn
                      generalize v122 qn = v122 at hP hD hres ⊢
                      have hP : va_P D vwCl (zX q cM cH cW cL cB cS em v122.2.1 ++ (zpn pl qn v122.2.2)) H := hP
                      have hD : va_D A (zX q cM cH cW cL cB cS em v122.2.1 ++ (zpn pl qn v122.2.2)) := hD
                      have e9 := Option.some.inj (hres)
                      refine W.widen (k := 2) (n := 17) (by omega) (by omega) ?_
                      exact W.iret (v := v122.1) hx hb hr (fun t ht hW => ⟨⟨_, qn, rfl, congrArg Prod.fst e9, by show va_P D vwCl (zX q cM cH cW cL cB cS em (v qn).2.1 ++ zpn pl qn (v qn).2.2) t.heap; rw [ht, ← e9]; exact hP, va_K.moved hW.alike hK, by show va_D A (zX q cM cH cW cL cB cS em (v qn).2.1 ++ zpn pl qn (v qn).2.2); rw [← e9]; exact hD⟩, hS.F ht⟩) hS.2.2 d_V_merge_125
                    · have hres := zl_n c_111 hres
                      refine lv_iload hx hb d_V_merge_114 (lv_at hl 0 rfl) ?_
                      have e9 := Option.some.inj (hres (0, 0))
                      refine W.widen (k := 2) (n := 17) (by omega) (by omega) ?_
                      exact W.iret (v := v104.1) hx hb hr (fun t ht hW => ⟨⟨_, (0, 0), rfl, congrArg Prod.fst e9, by show va_P D vwCl (zX q cM cH cW cL cB cS em (v (0, 0)).2.1 ++ zpn pl (0, 0) (v (0, 0)).2.2) t.heap; rw [ht, ← e9]; exact hP, va_K.moved hW.alike hK, by show va_D A (zX q cM cH cW cL cB cS em (v (0, 0)).2.1 ++ zpn pl (0, 0) (v (0, 0)).2.2); rw [← e9]; exact hD⟩, hS.F ht⟩) hS.2.2 d_V_merge_116
                  · have hres := zl_n c_94 hres
                    refine lv_bipush (v := (-2)) hx hb d_V_merge_97 (by decide) ?_
                    have e9 := Option.some.inj (hres (0, 0))
                    refine W.widen (k := 2) (n := 17) (by omega) (by omega) ?_
                    exact W.iret (v := (-2)) hx hb hr (fun t ht hW => ⟨⟨_, (0, 0), rfl, congrArg Prod.fst e9, by show va_P D vwCl (zX q cM cH cW cL cB cS em (v (0, 0)).2.1 ++ zpn pl (0, 0) (v (0, 0)).2.2) t.heap; rw [ht, ← e9]; exact hP, va_K.moved hW.alike hK, by show va_D A (zX q cM cH cW cL cB cS em (v (0, 0)).2.1 ++ zpn pl (0, 0) (v (0, 0)).2.2); rw [← e9]; exact hD⟩, hS.F ht⟩) hS.2.2 d_V_merge_99
                · have hres := zl_n c_79 hres
                  refine lv_aload hx hb d_V_merge_82 (lv_at hl 0 rfl) ?_
                  refine va_get (D := D) (ci := 1) (v := .int o_53'.1) (C := R_C) (T := T_C) (N := 7) hx hb hts in_C hown hK hP (15 + ko_53') (zpl_get hko_53') rfl 0 (by decide) (hts _ k_251) (fun _ h9 => h9) rfl d_V_merge_84 ?_
                  have e9 := Option.some.inj (hres (0, 0))
                  refine W.widen (k := 2) (n := 17) (by omega) (by omega) ?_
                  exact W.iret (v := o_53'.1) hx hb hr (fun t ht hW => ⟨⟨_, (0, 0), rfl, congrArg Prod.fst e9, by show va_P D vwCl (zX q cM cH cW cL cB cS em (v (0, 0)).2.1 ++ zpn pl (0, 0) (v (0, 0)).2.2) t.heap; rw [ht, ← e9]; exact hP, va_K.moved hW.alike hK, by show va_D A (zX q cM cH cW cL cB cS em (v (0, 0)).2.1 ++ zpn pl (0, 0) (v (0, 0)).2.2); rw [← e9]; exact hD⟩, hS.F ht⟩) hS.2.2 d_V_merge_87
              · have hres := zl_n c_56 hres
                refine lv_aload_n hx hb d_V_merge_59 rfl (lv_at hl 2 rfl) ?_
                refine lv_iload_n hx hb d_V_merge_60 rfl (lv_at hl 4 rfl) ?_
                refine lv_aload_n hx hb d_V_merge_61 rfl (lv_at hl 1 rfl) ?_
                refine va_get (D := D) (ci := 1) (v := .int o_53.1) (C := R_C) (T := T_C) (N := 7) hx hb hts in_C hown hK hP (15 + ko_53) (zpl_get hko_53) rfl 0 (by decide) (hts _ k_251) (fun _ h9 => h9) rfl d_V_merge_62 ?_
                obtain ⟨v65, hc65, hres⟩ := zl_b (0, 0) hres
                refine zw_v (ws' := zX q cM cH cW cL cB cS em v65 ++ pl) (va_runV (As := [.int j, .int o_53.1]) (rest := []) ⟨hx, hb, hml, hown, hts⟩ (c_V_moveHead l D [(cM, .object R_C), (cH, .int), (cW, .boolean), (cL, .int), (cB, .int), (cS, .object R_T)] _ q cM cH cW cL cB cS em pl cm tm hpl σ j o_53.1 v65 hc65) (cwV 2 hts (zg_V k_279 k_281 k_3 k_29 g_V_moveHead) rfl rfl rfl ⟨rfl, hd_V_moveHead⟩ ⟨Nat.le_of_ble_eq_true rfl, Nat.le_of_ble_eq_true rfl⟩) ⟨zrw_b _, va_recv hK hP (q0 := 0) rfl rfl, zrw_w hP hD hK hN _⟩ rfl rfl hl.1 rfl (lv_room (Nat.le_of_ble_eq_true rfl)) d_V_merge_65 ⟨Nat.le_of_ble_eq_true rfl, Nat.le_of_ble_eq_true rfl⟩) hD hS hA (fun H locs hP hD hS => ?_)
                have hP : va_P D vwCl (zX q cM cH cW cL cB cS em v65 ++ pl) H := hP
                have hD : va_D A (zX q cM cH cW cL cB cS em v65 ++ pl) := hD
                refine lv_aload_n hx hb d_V_merge_68 rfl (lv_at hl 1 rfl) ?_
                refine va_get (D := D) (ci := 1) (v := .int o_53.1) (C := R_C) (T := T_C) (N := 7) hx hb hts in_C hown hK hP (15 + ko_53) (zpl_get hko_53) rfl 0 (by decide) (hts _ k_251) (fun _ h9 => h9) rfl d_V_merge_69 ?_
                have e9 := Option.some.inj (hres (0, 0))
                refine W.widen (k := 2) (n := 17) (by omega) (by omega) ?_
                exact W.iret (v := o_53.1) hx hb hr (fun t ht hW => ⟨⟨_, (0, 0), rfl, congrArg Prod.fst e9, by show va_P D vwCl (zX q cM cH cW cL cB cS em (v (0, 0)).2.1 ++ zpn pl (0, 0) (v (0, 0)).2.2) t.heap; rw [ht, ← e9]; exact hP, va_K.moved hW.alike hK, by show va_D A (zX q cM cH cW cL cB cS em (v (0, 0)).2.1 ++ zpn pl (0, 0) (v (0, 0)).2.2); rw [← e9]; exact hD⟩, hS.F ht⟩) hS.2.2 d_V_merge_72
          · exact absurd (zl_n ck_39 hres (0, 0)) (by simp)
      · exact absurd (zl_n ck_22 hres (0, 0)) (by simp)
    · have hres := zl_p c_11 hres
      refine lv_iconst (v := (-1)) hx hb d_V_merge_14 (by decide) ?_
      have e9 := Option.some.inj (hres (0, 0))
      refine W.widen (k := 2) (n := 17) (by omega) (by omega) ?_
      exact W.iret (v := (-1)) hx hb hr (fun t ht hW => ⟨⟨_, (0, 0), rfl, congrArg Prod.fst e9, by show va_P D vwCl (zX q cM cH cW cL cB cS em (v (0, 0)).2.1 ++ zpn pl (0, 0) (v (0, 0)).2.2) t.heap; rw [ht, ← e9]; exact hP, va_K.moved hW.alike hK, by show va_D A (zX q cM cH cW cL cB cS em (v (0, 0)).2.1 ++ zpn pl (0, 0) (v (0, 0)).2.2); rw [← e9]; exact hD⟩, hS.F ht⟩) hS.2.2 d_V_merge_15

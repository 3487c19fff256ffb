def f_T_init : Option (Unit) :=
  some ()
set_option maxHeartbeats 4000000 in
set_option maxRecDepth 100000 in
theorem c_T_init (l : Launch) (D : va_G) (tys : List (ClassId × FieldType)) (h0 : Nat) (v : Unit) (hres : f_T_init = some v) : Met l y_T_init w_T_init ({ frames := 1, cells := 0, slots := 0, locals := 12 } : Room) (va_Pc ([.ref h0]) (zro D tys ([]))) (va_Sv (fun _ => True)) 0 0 (fun _ => False) := by
  refine Met.ofW (cc := b_T_init) (maxL := 1) (ret := none) (by decide) rfl ?_
  intro p e s m args below meth c s₁ B hml hv
  obtain ⟨rfl, hP, hK, hN⟩ := hv
  have hx := B.exec
  have hb := B.bytes
  have hr := B.returns
  have hts : ∀ w ∈ zt, w.before ([.ref h0].toArray) s = true := fun w h => atoms_spec (ws := w_T_init) B.pre w (List.mem_cons_of_mem _ h)
  have hown : s.vm.findClass R_T = some m.cls := findClass_of_methodNamed B.named
  have hlocks := B.notSynchronized
  have hin : meth.name = "<init>" := (name_of_methodNamed B.named B.method).1
  have hl := lv_entry ([.ref h0]) (n := 1) (Nat.le_of_ble_eq_true rfl)
  rw [lg_entry_eq]
  generalize (lg_sl ([.ref h0]) ++ List.replicate (1 - (lg_sl ([.ref h0])).length) Slot.unset).toArray = ls at hl ⊢
  have hl : lv_has ls 1 [(0, .ref h0)] := hl
  unfold f_T_init at hres
  refine lv_aload_n hx hb d_T_init_0 rfl (lv_at hl 0 rfl) ?_
  refine W.objInit hx hb hown (hts _ k_53) (hts _ k_44) (hts _ m_objectInit) rfl (by rw [hml]; exact hl.1) rfl d_T_init_1 (Nat.le_of_ble_eq_true rfl) (Nat.le_of_ble_eq_true rfl) ?_
  refine W.eq (g2 := F0 m 4 ls []) rfl ?_
  obtain rfl := Option.some.inj hres
  exact W.vret hx hb hr (fun t ht hW => ⟨rfl, trivial, ht⟩) (fun _ hq => by cases hq) d_T_init_4
abbrev qd_C_init_nnr (D : va_G) (tys : List (ClassId × FieldType)) (h0 : Nat) (h3 : Nat) (k : Int32) (z : TreeV) (v : Int32 × Int32 × (Option Nat) × (Option Nat) × Int64 × Int64 × TreeV) (A : Nat → Prop) : Array Value → State → Outcome → State → Prop := va_Qv (fun _ : Nat => True) (fun u t => zwd D tys (A) ([(h0, zcC (v.1, v.2.1, v.2.2.1, v.2.2.2.1, u, v.2.2.2.2.1, v.2.2.2.2.2.1))] ++ [(h3, zcT z)] ++ [(u, zcT v.2.2.2.2.2.2)]) t) (A)

def f_C_init_nnr (k : Int32) (z : TreeV) : Option (Int32 × Int32 × (Option Nat) × (Option Nat) × Int64 × Int64 × TreeV) :=
  Option.bind (f_T_init) (fun v31 =>
    Option.bind (f_T_become (0, 0, 0, 0, 0, 0, 0, 0, 0, 0) z) (fun v43 =>
      Option.bind (f_C_pastOf_n) (fun v51 =>
        Option.bind (f_C_pastOf_n) (fun v56 =>
          Option.bind (f_C_hashOfParents_nn) (fun v66 =>
            Option.bind (f_C_mixed v66 ((k + 1).toInt64)) (fun v74 =>
              Option.bind (f_C_hashWithTree v74 z) (fun v79 =>
                some (k, (k + 1), none, none, (((zs_l 1 k) ||| v51) ||| v56), v79, v43))))))))
set_option maxHeartbeats 4000000 in
set_option maxRecDepth 100000 in
theorem c_C_init_nnr (l : Launch) (D : va_G) (tys : List (ClassId × FieldType)) (sz : Nat) (h0 : Nat) (h3 : Nat) (k : Int32) (z : TreeV) (v : Int32 × Int32 × (Option Nat) × (Option Nat) × Int64 × Int64 × TreeV) (hres : f_C_init_nnr k z = some v) : Met l y_C_init w_C_init ({ frames := 2, cells := 1, slots := 10, locals := 50 } : Room) (va_Pc ([.ref h0, .int k, .null, .null, .ref h3]) (zrw D tys sz ([(h0, .inr (1, [.int 0, .int 0, va_rf none, va_rf none, .null, .long 0, .long 0]))] ++ [(h3, zcT z)]))) (qd_C_init_nnr D tys h0 h3 k z v (va_A ([(h0, .inr (1, [.int 0, .int 0, va_rf none, va_rf none, .null, .long 0, .long 0]))] ++ [(h3, zcT z)]) sz)) 1 10 (va_A ([(h0, .inr (1, [.int 0, .int 0, va_rf none, va_rf none, .null, .long 0, .long 0]))] ++ [(h3, zcT z)]) sz) := by
  refine Met.ofW (cc := b_C_init) (maxL := 5) (ret := none) (by decide) rfl ?_
  intro p e s m args below meth c s₁ B hml hv
  obtain ⟨rfl, hsz, hP, hK, hD0, hN⟩ := hv
  have hx := B.exec
  have hb := B.bytes
  have hr := B.returns
  have hts : ∀ w ∈ zt, w.before ([.ref h0, .int k, .null, .null, .ref h3].toArray) s = true := fun w h => atoms_spec (ws := w_C_init) B.pre w (List.mem_cons_of_mem _ h)
  have hown : s.vm.findClass R_C = some m.cls := findClass_of_methodNamed B.named
  have hlocks := B.notSynchronized
  have hin : meth.name = "<init>" := (name_of_methodNamed B.named B.method).1
  subst hsz
  have hD := hD0.self (sz := s.heap.size)
  generalize hAe : va_A ([(h0, .inr (1, [.int 0, .int 0, va_rf none, va_rf none, .null, .long 0, .long 0]))] ++ [(h3, zcT z)]) s.heap.size = A at hD ⊢
  have hA : ∀ q : Nat, s.heap.size ≤ q → A q := fun q h => by rw [← hAe]; exact Or.inr h
  have hS : va_S A s.heap s.heap [] := va_S.rf
  have hP : va_P D vwCl ([(h0, .inr (1, [.int 0, .int 0, va_rf none, va_rf none, .null, .long 0, .long 0])), (h3, zcT z)]) s.heap := hP
  have hD : va_D A ([(h0, .inr (1, [.int 0, .int 0, va_rf none, va_rf none, .null, .long 0, .long 0])), (h3, zcT z)]) := hD
  have hl := lv_entry ([.ref h0, .int k, .null, .null, .ref h3]) (n := 5) (Nat.le_of_ble_eq_true rfl)
  rw [lg_entry_eq]
  generalize (lg_sl ([.ref h0, .int k, .null, .null, .ref h3]) ++ List.replicate (5 - (lg_sl ([.ref h0, .int k, .null, .null, .ref h3])).length) Slot.unset).toArray = ls at hl ⊢
  have hl : lv_has ls 5 [(0, .ref h0), (1, .int k), (2, .null), (3, .null), (4, .ref h3)] := hl
  unfold f_C_init_nnr at hres
  refine lv_aload_n hx hb d_C_init_0 rfl (lv_at hl 0 rfl) ?_
  refine W.objInit hx hb hown (hts _ k_229) (hts _ k_44) (hts _ m_objectInit) rfl (by rw [hml]; exact hl.1) rfl d_C_init_1 (Nat.le_of_ble_eq_true rfl) (Nat.le_of_ble_eq_true rfl) ?_
  refine W.eq (g2 := F0 m 4 ls []) rfl ?_
  refine lv_aload_n hx hb d_C_init_4 rfl (lv_at hl 0 rfl) ?_
  refine lv_iload_n hx hb d_C_init_5 rfl (lv_at hl 1 rfl) ?_
  refine va_putF (D := D) (ci := 1) (v := .int k) (ty := .int) (C := R_C) (T := T_C) (N := 7) hx hb hts in_C ty_C ok_C nm_C hown hK hP hD hS 0 rfl rfl 0 (by decide) (hts _ k_250) (fun _ h9 => h9) rfl hin rfl (by decide +kernel) rfl rfl (Nat.le_of_ble_eq_true rfl) d_C_init_6 (fun H locs hP hD hS => ?_)
  have hP : va_P D vwCl ([(h0, .inr (1, [.int k, .int 0, va_rf none, va_rf none, .null, .long 0, .long 0])), (h3, zcT z)]) H := hP
  have hD : va_D A ([(h0, .inr (1, [.int k, .int 0, va_rf none, va_rf none, .null, .long 0, .long 0])), (h3, zcT z)]) := hD
  refine lv_aload_n hx hb d_C_init_9 rfl (lv_at hl 0 rfl) ?_
  refine lv_iload_n hx hb d_C_init_10 rfl (lv_at hl 1 rfl) ?_
  refine lv_iconst (v := 1) hx hb d_C_init_11 (by decide) ?_
  refine lv_iadd hx hb d_C_init_12 ?_
  refine va_putF (D := D) (ci := 1) (v := .int (k + 1)) (ty := .int) (C := R_C) (T := T_C) (N := 7) hx hb hts in_C ty_C ok_C nm_C hown hK hP hD hS 0 rfl rfl 1 (by decide) (hts _ k_252) (fun _ h9 => h9) rfl hin rfl (by decide +kernel) rfl rfl (Nat.le_of_ble_eq_true rfl) d_C_init_13 (fun H locs hP hD hS => ?_)
  have hP : va_P D vwCl ([(h0, .inr (1, [.int k, .int (k + 1), va_rf none, va_rf none, .null, .long 0, .long 0])), (h3, zcT z)]) H := hP
  have hD : va_D A ([(h0, .inr (1, [.int k, .int (k + 1), va_rf none, va_rf none, .null, .long 0, .long 0])), (h3, zcT z)]) := hD
  refine lv_aload_n hx hb d_C_init_16 rfl (lv_at hl 0 rfl) ?_
  refine lv_aload_nN hx hb d_C_init_17 rfl (lv_at hl 2 rfl) ?_
  refine va_putF (D := D) (ci := 1) (v := .null) (ty := (.object "MergeVault$Commit")) (C := R_C) (T := T_C) (N := 7) hx hb hts in_C ty_C ok_C nm_C hown hK hP hD hS 0 rfl rfl 2 (by decide) (hts _ k_254) (fun _ h9 => h9) rfl hin rfl (by decide +kernel) rfl rfl (Nat.le_of_ble_eq_true rfl) d_C_init_18 (fun H locs hP hD hS => ?_)
  have hP : va_P D vwCl ([(h0, .inr (1, [.int k, .int (k + 1), va_rf none, va_rf none, .null, .long 0, .long 0])), (h3, zcT z)]) H := hP
  have hD : va_D A ([(h0, .inr (1, [.int k, .int (k + 1), va_rf none, va_rf none, .null, .long 0, .long 0])), (h3, zcT z)]) := hD
  refine lv_aload_n hx hb d_C_init_21 rfl (lv_at hl 0 rfl) ?_
  refine lv_aload_nN hx hb d_C_init_22 rfl (lv_at hl 3 rfl) ?_
  refine va_putF (D := D) (ci := 1) (v := .null) (ty := (.object "MergeVault$Commit")) (C := R_C) (T := T_C) (N := 7) hx hb hts in_C ty_C ok_C nm_C hown hK hP hD hS 0 rfl rfl 3 (by decide) (hts _ k_256) (fun _ h9 => h9) rfl hin rfl (by decide +kernel) rfl rfl (Nat.le_of_ble_eq_true rfl) d_C_init_23 (fun H locs hP hD hS => ?_)
  have hP : va_P D vwCl ([(h0, .inr (1, [.int k, .int (k + 1), va_rf none, va_rf none, .null, .long 0, .long 0])), (h3, zcT z)]) H := hP
  have hD : va_D A ([(h0, .inr (1, [.int k, .int (k + 1), va_rf none, va_rf none, .null, .long 0, .long 0])), (h3, zcT z)]) := hD
  refine lv_aload_n hx hb d_C_init_26 rfl (lv_at hl 0 rfl) ?_
  refine va_new (ci := 0) (fs := [.long 0, .int 0, .int 0, .int 0, .int 0, .long 0, .int 0, .long 0, .long 0, .int 0]) (C := R_T) (T := T_T) (N := 10) hx hb hts in_T ty_T ok_T hown (hts _ k_230) (hts _ k_49) (hts _ k_30) hK hP hD hS hA rfl (fun j hj => by rcases (show j = 0 ∨ j = 1 ∨ j = 2 ∨ j = 3 ∨ j = 4 ∨ j = 5 ∨ j = 6 ∨ j = 7 ∨ j = 8 ∨ j = 9 by omega) with rfl | rfl | rfl | rfl | rfl | rfl | rfl | rfl | rfl | rfl <;> rfl) (Nat.le_of_ble_eq_true rfl) (Nat.le_of_ble_eq_true rfl) d_C_init_27 (fun q27 H hP hD hS => ?_)
  have hP : va_P D vwCl ([(h0, .inr (1, [.int k, .int (k + 1), va_rf none, va_rf none, .null, .long 0, .long 0])), (h3, zcT z), (q27, .inr (0, [.long 0, .int 0, .int 0, .int 0, .int 0, .long 0, .int 0, .long 0, .long 0, .int 0]))]) H := hP
  have hD : va_D A ([(h0, .inr (1, [.int k, .int (k + 1), va_rf none, va_rf none, .null, .long 0, .long 0])), (h3, zcT z), (q27, .inr (0, [.long 0, .int 0, .int 0, .int 0, .int 0, .long 0, .int 0, .long 0, .long 0, .int 0]))]) := hD
  refine lv_dup hx hb d_C_init_30 rfl ?_
  obtain ⟨v31, hc31, hres⟩ := zo_b hres
  refine va_csv (va_Run.run (va_runIN (As := []) (rest := [.ref q27, .ref h0]) ⟨hx, hb, hml, hown, hts⟩ (c_T_init l D tys q27 v31 hc31) ⟨va_cnB 0 hts g_T_init rfl rfl rfl hN.2.2.2.1 (hts _ k_30) hd_T_init ⟨Nat.le_of_ble_eq_true rfl, Nat.le_of_ble_eq_true rfl⟩, rfl, hts _ k_51⟩ ⟨zro_b _, zro_p va_Pnil hK hN _⟩ rfl rfl hl.1 rfl (lv_room (Nat.le_of_ble_eq_true rfl)) d_C_init_31 ⟨Nat.le_of_ble_eq_true rfl, Nat.le_of_ble_eq_true rfl⟩)) (fun _ => ?_)
  refine va_putF (D := D) (ci := 1) (v := .ref q27) (ty := (.object "MergeVault$Tree")) (C := R_C) (T := T_C) (N := 7) hx hb hts in_C ty_C ok_C nm_C hown hK hP hD hS 0 rfl rfl 4 (by decide) (hts _ k_258) (fun _ h9 => h9) rfl hin rfl (by decide +kernel) rfl rfl (Nat.le_of_ble_eq_true rfl) d_C_init_34 (fun H locs hP hD hS => ?_)
  have hP : va_P D vwCl ([(h0, .inr (1, [.int k, .int (k + 1), va_rf none, va_rf none, .ref q27, .long 0, .long 0])), (h3, zcT z), (q27, .inr (0, [.long 0, .int 0, .int 0, .int 0, .int 0, .long 0, .int 0, .long 0, .long 0, .int 0]))]) H := hP
  have hD : va_D A ([(h0, .inr (1, [.int k, .int (k + 1), va_rf none, va_rf none, .ref q27, .long 0, .long 0])), (h3, zcT z), (q27, .inr (0, [.long 0, .int 0, .int 0, .int 0, .int 0, .long 0, .int 0, .long 0, .long 0, .int 0]))]) := hD
  refine lv_aload_n hx hb d_C_init_37 rfl (lv_at hl 0 rfl) ?_
  refine va_get (D := D) (ci := 1) (v := .ref q27) (C := R_C) (T := T_C) (N := 7) hx hb hts in_C hown hK hP (0) rfl rfl 4 (by decide) (hts _ k_258) (fun _ h9 => h9) rfl d_C_init_38 ?_
  refine lv_aload hx hb d_C_init_41 (lv_at hl 4 rfl) ?_
  obtain ⟨v43, hc43, hres⟩ := zo_b hres
  have hWc : ([2] : List Nat).map (fun i => ([(h0, .inr (1, [.int k, .int (k + 1), va_rf none, va_rf none, .ref q27, .long 0, .long 0])), (h3, zcT z), (q27, .inr (0, [.long 0, .int 0, .int 0, .int 0, .int 0, .long 0, .int 0, .long 0, .long 0, .int 0]))])[i]?) = ([(q27, .inr (0, [.long 0, .int 0, .int 0, .int 0, .int 0, .long 0, .int 0, .long 0, .long 0, .int 0]))] : va_W).map some := (zcons rfl znil)
  have hRc : ([1] : List Nat).map (fun i => ([(h0, .inr (1, [.int k, .int (k + 1), va_rf none, va_rf none, .ref q27, .long 0, .long 0])), (h3, zcT z), (q27, .inr (0, [.long 0, .int 0, .int 0, .int 0, .int 0, .long 0, .int 0, .long 0, .long 0, .int 0]))])[i]?) = ([(h3, zcT z)] : va_W).map some := (zcons rfl znil)
  refine zd_v (wcw := [(q27, .inr (0, [.long 0, .int 0, .int 0, .int 0, .int 0, .long 0, .int 0, .long 0, .long 0, .int 0]))]) (wro := [(h3, zcT z)]) (w1w := [(q27, zcT v43)]) (va_runV (As := [.ref h3]) (rest := []) ⟨hx, hb, hml, hown, hts⟩ (c_T_become l D tys _ q27 h3 (0, 0, 0, 0, 0, 0, 0, 0, 0, 0) z v43 hc43) (cwV 1 hts (zg_V k_232 k_209 k_210 k_30 g_T_become) rfl rfl rfl ⟨rfl, hd_T_become⟩ ⟨Nat.le_of_ble_eq_true rfl, Nat.le_of_ble_eq_true rfl⟩) ⟨zrw_b _, va_recv hK hP (q0 := 2) rfl rfl, zrw_p hP hD hK hN [2] [1] hWc hRc (by decide) _⟩ rfl rfl hl.1 rfl (lv_room (Nat.le_of_ble_eq_true rfl)) d_C_init_43 ⟨Nat.le_of_ble_eq_true rfl, Nat.le_of_ble_eq_true rfl⟩) hP hD hS hA [2] [1] hWc hRc rfl (fun H locs hP hD hS => ?_)
  have hP : va_P D vwCl ([(h0, .inr (1, [.int k, .int (k + 1), va_rf none, va_rf none, .ref q27, .long 0, .long 0])), (h3, zcT z), (q27, zcT v43)]) H := hP
  have hD : va_D A ([(h0, .inr (1, [.int k, .int (k + 1), va_rf none, va_rf none, .ref q27, .long 0, .long 0])), (h3, zcT z), (q27, zcT v43)]) := hD
  refine lv_aload_n hx hb d_C_init_46 rfl (lv_at hl 0 rfl) ?_
  refine lv_lconst (v := 1) hx hb d_C_init_47 (by decide) ?_
  refine lv_iload_n hx hb d_C_init_48 rfl (lv_at hl 1 rfl) ?_
  refine lv_lshl (v := (zs_l 1 k)) hx hb d_C_init_49 rfl ?_
  refine lv_aload_nN hx hb d_C_init_50 rfl (lv_at hl 2 rfl) ?_
  obtain ⟨v51, hc51, hres⟩ := zo_b hres
  refine vp_callSl (va_Run.run (va_runS (As := [.null]) (rest := [.long (zs_l 1 k), .ref h0]) ⟨hx, hb, hml, hown, hts⟩ (c_C_pastOf_n l D tys v51 hc51) (va_cwS 1 hts (zg_S k_233 k_234 k_35 g_C_pastOf) rfl rfl rfl hd_C_pastOf ⟨Nat.le_of_ble_eq_true rfl, Nat.le_of_ble_eq_true rfl⟩) ⟨zro_b _, zro_p va_Pnil hK hN _⟩ rfl rfl hl.1 rfl (lv_room (Nat.le_of_ble_eq_true rfl)) d_C_init_51 ⟨Nat.le_of_ble_eq_true rfl, Nat.le_of_ble_eq_true rfl⟩)) (fun r_51 er_51 => ?_)
  have er_51 := er_51.symm
  subst er_51
  refine lv_lor hx hb d_C_init_54 ?_
  refine lv_aload_nN hx hb d_C_init_55 rfl (lv_at hl 3 rfl) ?_
  obtain ⟨v56, hc56, hres⟩ := zo_b hres
  refine vp_callSl (va_Run.run (va_runS (As := [.null]) (rest := [.long ((zs_l 1 k) ||| v51), .ref h0]) ⟨hx, hb, hml, hown, hts⟩ (c_C_pastOf_n l D tys v56 hc56) (va_cwS 1 hts (zg_S k_233 k_234 k_35 g_C_pastOf) rfl rfl rfl hd_C_pastOf ⟨Nat.le_of_ble_eq_true rfl, Nat.le_of_ble_eq_true rfl⟩) ⟨zro_b _, zro_p va_Pnil hK hN _⟩ rfl rfl hl.1 rfl (lv_room (Nat.le_of_ble_eq_true rfl)) d_C_init_56 ⟨Nat.le_of_ble_eq_true rfl, Nat.le_of_ble_eq_true rfl⟩)) (fun r_56 er_56 => ?_)
  have er_56 := er_56.symm
  subst er_56
  refine lv_lor hx hb d_C_init_59 ?_
  refine va_putF (D := D) (ci := 1) (v := .long (((zs_l 1 k) ||| v51) ||| v56)) (ty := .long) (C := R_C) (T := T_C) (N := 7) hx hb hts in_C ty_C ok_C nm_C hown hK hP hD hS 0 rfl rfl 5 (by decide) (hts _ k_260) (fun _ h9 => h9) rfl hin rfl (by decide +kernel) rfl rfl (Nat.le_of_ble_eq_true rfl) d_C_init_60 (fun H locs hP hD hS => ?_)
  have hP : va_P D vwCl ([(h0, .inr (1, [.int k, .int (k + 1), va_rf none, va_rf none, .ref q27, .long (((zs_l 1 k) ||| v51) ||| v56), .long 0])), (h3, zcT z), (q27, zcT v43)]) H := hP
  have hD : va_D A ([(h0, .inr (1, [.int k, .int (k + 1), va_rf none, va_rf none, .ref q27, .long (((zs_l 1 k) ||| v51) ||| v56), .long 0])), (h3, zcT z), (q27, zcT v43)]) := hD
  refine lv_aload_n hx hb d_C_init_63 rfl (lv_at hl 0 rfl) ?_
  refine lv_aload_nN hx hb d_C_init_64 rfl (lv_at hl 2 rfl) ?_
  refine lv_aload_nN hx hb d_C_init_65 rfl (lv_at hl 3 rfl) ?_
  obtain ⟨v66, hc66, hres⟩ := zo_b hres
  refine vp_callSl (va_Run.run (va_runS (As := [.null, .null]) (rest := [.ref h0]) ⟨hx, hb, hml, hown, hts⟩ (c_C_hashOfParents_nn l D tys v66 hc66) (va_cwS 2 hts (zg_S k_236 k_237 k_35 g_C_hashOfParents) rfl rfl rfl hd_C_hashOfParents ⟨Nat.le_of_ble_eq_true rfl, Nat.le_of_ble_eq_true rfl⟩) ⟨zro_b _, zro_p va_Pnil hK hN _⟩ rfl rfl hl.1 rfl (lv_room (Nat.le_of_ble_eq_true rfl)) d_C_init_66 ⟨Nat.le_of_ble_eq_true rfl, Nat.le_of_ble_eq_true rfl⟩)) (fun r_66 er_66 => ?_)
  have er_66 := er_66.symm
  subst er_66
  refine lv_aload_n hx hb d_C_init_69 rfl (lv_at hl 0 rfl) ?_
  refine va_get (D := D) (ci := 1) (v := .int (k + 1)) (C := R_C) (T := T_C) (N := 7) hx hb hts in_C hown hK hP (0) rfl rfl 1 (by decide) (hts _ k_252) (fun _ h9 => h9) rfl d_C_init_70 ?_
  refine lv_i2l (v := (k + 1).toInt64) hx hb d_C_init_73 rfl ?_
  obtain ⟨v74, hc74, hres⟩ := zo_b hres
  refine vp_callSl (va_Run.run (va_runS (As := [.long v66, .long ((k + 1).toInt64)]) (rest := [.ref h0]) ⟨hx, hb, hml, hown, hts⟩ (c_C_mixed l D tys v66 ((k + 1).toInt64) v74 hc74) (va_cwS 2 hts (zg_S k_240 k_241 k_35 g_C_mixed) rfl rfl rfl hd_C_mixed ⟨Nat.le_of_ble_eq_true rfl, Nat.le_of_ble_eq_true rfl⟩) ⟨zro_b _, zro_p va_Pnil hK hN _⟩ rfl rfl hl.1 rfl (lv_room (Nat.le_of_ble_eq_true rfl)) d_C_init_74 ⟨Nat.le_of_ble_eq_true rfl, Nat.le_of_ble_eq_true rfl⟩)) (fun r_74 er_74 => ?_)
  have er_74 := er_74.symm
  subst er_74
  refine lv_aload hx hb d_C_init_77 (lv_at hl 4 rfl) ?_
  obtain ⟨v79, hc79, hres⟩ := zo_b hres
  have hPc := zsubP hP (wc := [(h3, zcT z)]) (is := [1]) (zcons rfl znil)
  refine vp_callSl (va_Run.run (va_runS (As := [.long v74, .ref h3]) (rest := [.ref h0]) ⟨hx, hb, hml, hown, hts⟩ (c_C_hashWithTree l D tys h3 v74 z v79 hc79) (va_cwS 2 hts (zg_S k_246 k_247 k_35 g_C_hashWithTree) rfl rfl rfl hd_C_hashWithTree ⟨Nat.le_of_ble_eq_true rfl, Nat.le_of_ble_eq_true rfl⟩) ⟨zro_b _, zro_p hPc hK hN _⟩ rfl rfl hl.1 rfl (lv_room (Nat.le_of_ble_eq_true rfl)) d_C_init_79 ⟨Nat.le_of_ble_eq_true rfl, Nat.le_of_ble_eq_true rfl⟩)) (fun r_79 er_79 => ?_)
  have er_79 := er_79.symm
  subst er_79
  refine va_putF (D := D) (ci := 1) (v := .long v79) (ty := .long) (C := R_C) (T := T_C) (N := 7) hx hb hts in_C ty_C ok_C nm_C hown hK hP hD hS 0 rfl rfl 6 (by decide) (hts _ k_262) (fun _ h9 => h9) rfl hin rfl (by decide +kernel) rfl rfl (Nat.le_of_ble_eq_true rfl) d_C_init_82 (fun H locs hP hD hS => ?_)
  have hP : va_P D vwCl ([(h0, .inr (1, [.int k, .int (k + 1), va_rf none, va_rf none, .ref q27, .long (((zs_l 1 k) ||| v51) ||| v56), .long v79])), (h3, zcT z), (q27, zcT v43)]) H := hP
  have hD : va_D A ([(h0, .inr (1, [.int k, .int (k + 1), va_rf none, va_rf none, .ref q27, .long (((zs_l 1 k) ||| v51) ||| v56), .long v79])), (h3, zcT z), (q27, zcT v43)]) := hD
  obtain rfl := Option.some.inj hres
  refine W.widen (k := 1) (n := 10) (by omega) (by omega) ?_
  exact W.vret hx hb hr (fun t ht hW => ⟨⟨q27, rfl, trivial, by rw [ht]; exact hP, va_K.moved hW.alike hK, hD⟩, hS.F ht⟩) hS.2.2 d_C_init_85
abbrev qd_C_init_rnr (D : va_G) (tys : List (ClassId × FieldType)) (h0 : Nat) (h3 : Nat) (k : Int32) (h1 : Nat) (x : ComV) (z : TreeV) (v : Int32 × Int32 × (Option Nat) × (Option Nat) × Int64 × Int64 × TreeV) (A : Nat → Prop) : Array Value → State → Outcome → State → Prop := va_Qv (fun _ : Nat => True) (fun u t => zwd D tys (A) ([(h0, zcC (v.1, v.2.1, v.2.2.1, v.2.2.2.1, u, v.2.2.2.2.1, v.2.2.2.2.2.1))] ++ [(h3, zcT z), (h1, zcC x)] ++ [(u, zcT v.2.2.2.2.2.2)]) t) (A)

def f_C_init_rnr (k : Int32) (h1 : Nat) (x : ComV) (z : TreeV) : Option (Int32 × Int32 × (Option Nat) × (Option Nat) × Int64 × Int64 × TreeV) :=
  Option.bind (f_T_init) (fun v31 =>
    Option.bind (f_T_become (0, 0, 0, 0, 0, 0, 0, 0, 0, 0) z) (fun v43 =>
      Option.bind (f_C_pastOf_r x) (fun v51 =>
        Option.bind (f_C_pastOf_n) (fun v56 =>
          Option.bind (f_C_hashOfParents_rn x) (fun v66 =>
            Option.bind (f_C_mixed v66 ((k + 1).toInt64)) (fun v74 =>
              Option.bind (f_C_hashWithTree v74 z) (fun v79 =>
                some (k, (k + 1), some h1, none, (((zs_l 1 k) ||| v51) ||| v56), v79, v43))))))))
set_option maxHeartbeats 4000000 in
set_option maxRecDepth 100000 in
theorem c_C_init_rnr (l : Launch) (D : va_G) (tys : List (ClassId × FieldType)) (sz : Nat) (h0 : Nat) (h3 : Nat) (k : Int32) (h1 : Nat) (x : ComV) (z : TreeV) (v : Int32 × Int32 × (Option Nat) × (Option Nat) × Int64 × Int64 × TreeV) (hres : f_C_init_rnr k h1 x z = some v) : Met l y_C_init w_C_init ({ frames := 2, cells := 1, slots := 10, locals := 50 } : Room) (va_Pc ([.ref h0, .int k, .ref h1, .null, .ref h3]) (zrw D tys sz ([(h0, .inr (1, [.int 0, .int 0, va_rf none, va_rf none, .null, .long 0, .long 0]))] ++ [(h3, zcT z), (h1, zcC x)]))) (qd_C_init_rnr D tys h0 h3 k h1 x z v (va_A ([(h0, .inr (1, [.int 0, .int 0, va_rf none, va_rf none, .null, .long 0, .long 0]))] ++ [(h3, zcT z), (h1, zcC x)]) sz)) 1 10 (va_A ([(h0, .inr (1, [.int 0, .int 0, va_rf none, va_rf none, .null, .long 0, .long 0]))] ++ [(h3, zcT z), (h1, zcC x)]) sz) := by
  refine Met.ofW (cc := b_C_init) (maxL := 5) (ret := none) (by decide) rfl ?_
  intro p e s m args below meth c s₁ B hml hv
  obtain ⟨rfl, hsz, hP, hK, hD0, hN⟩ := hv
  have hx := B.exec
  have hb := B.bytes
  have hr := B.returns
  have hts : ∀ w ∈ zt, w.before ([.ref h0, .int k, .ref h1, .null, .ref h3].toArray) s = true := fun w h => atoms_spec (ws := w_C_init) B.pre w (List.mem_cons_of_mem _ h)
  have hown : s.vm.findClass R_C = some m.cls := findClass_of_methodNamed B.named
  have hlocks := B.notSynchronized
  have hin : meth.name = "<init>" := (name_of_methodNamed B.named B.method).1
  subst hsz
  have hD := hD0.self (sz := s.heap.size)
  generalize hAe : va_A ([(h0, .inr (1, [.int 0, .int 0, va_rf none, va_rf none, .null, .long 0, .long 0]))] ++ [(h3, zcT z), (h1, zcC x)]) s.heap.size = A at hD ⊢
  have hA : ∀ q : Nat, s.heap.size ≤ q → A q := fun q h => by rw [← hAe]; exact Or.inr h
  have hS : va_S A s.heap s.heap [] := va_S.rf
  have hP : va_P D vwCl ([(h0, .inr (1, [.int 0, .int 0, va_rf none, va_rf none, .null, .long 0, .long 0])), (h3, zcT z), (h1, zcC x)]) s.heap := hP
  have hD : va_D A ([(h0, .inr (1, [.int 0, .int 0, va_rf none, va_rf none, .null, .long 0, .long 0])), (h3, zcT z), (h1, zcC x)]) := hD
  have hl := lv_entry ([.ref h0, .int k, .ref h1, .null, .ref h3]) (n := 5) (Nat.le_of_ble_eq_true rfl)
  rw [lg_entry_eq]
  generalize (lg_sl ([.ref h0, .int k, .ref h1, .null, .ref h3]) ++ List.replicate (5 - (lg_sl ([.ref h0, .int k, .ref h1, .null, .ref h3])).length) Slot.unset).toArray = ls at hl ⊢
  have hl : lv_has ls 5 [(0, .ref h0), (1, .int k), (2, .ref h1), (3, .null), (4, .ref h3)] := hl
  unfold f_C_init_rnr at hres
  refine lv_aload_n hx hb d_C_init_0 rfl (lv_at hl 0 rfl) ?_
  refine W.objInit hx hb hown (hts _ k_229) (hts _ k_44) (hts _ m_objectInit) rfl (by rw [hml]; exact hl.1) rfl d_C_init_1 (Nat.le_of_ble_eq_true rfl) (Nat.le_of_ble_eq_true rfl) ?_
  refine W.eq (g2 := F0 m 4 ls []) rfl ?_
  refine lv_aload_n hx hb d_C_init_4 rfl (lv_at hl 0 rfl) ?_
  refine lv_iload_n hx hb d_C_init_5 rfl (lv_at hl 1 rfl) ?_
  refine va_putF (D := D) (ci := 1) (v := .int k) (ty := .int) (C := R_C) (T := T_C) (N := 7) hx hb hts in_C ty_C ok_C nm_C hown hK hP hD hS 0 rfl rfl 0 (by decide) (hts _ k_250) (fun _ h9 => h9) rfl hin rfl (by decide +kernel) rfl rfl (Nat.le_of_ble_eq_true rfl) d_C_init_6 (fun H locs hP hD hS => ?_)
  have hP : va_P D vwCl ([(h0, .inr (1, [.int k, .int 0, va_rf none, va_rf none, .null, .long 0, .long 0])), (h3, zcT z), (h1, zcC x)]) H := hP
  have hD : va_D A ([(h0, .inr (1, [.int k, .int 0, va_rf none, va_rf none, .null, .long 0, .long 0])), (h3, zcT z), (h1, zcC x)]) := hD
  refine lv_aload_n hx hb d_C_init_9 rfl (lv_at hl 0 rfl) ?_
  refine lv_iload_n hx hb d_C_init_10 rfl (lv_at hl 1 rfl) ?_
  refine lv_iconst (v := 1) hx hb d_C_init_11 (by decide) ?_
  refine lv_iadd hx hb d_C_init_12 ?_
  refine va_putF (D := D) (ci := 1) (v := .int (k + 1)) (ty := .int) (C := R_C) (T := T_C) (N := 7) hx hb hts in_C ty_C ok_C nm_C hown hK hP hD hS 0 rfl rfl 1 (by decide) (hts _ k_252) (fun _ h9 => h9) rfl hin rfl (by decide +kernel) rfl rfl (Nat.le_of_ble_eq_true rfl) d_C_init_13 (fun H locs hP hD hS => ?_)
  have hP : va_P D vwCl ([(h0, .inr (1, [.int k, .int (k + 1), va_rf none, va_rf none, .null, .long 0, .long 0])), (h3, zcT z), (h1, zcC x)]) H := hP
  have hD : va_D A ([(h0, .inr (1, [.int k, .int (k + 1), va_rf none, va_rf none, .null, .long 0, .long 0])), (h3, zcT z), (h1, zcC x)]) := hD
  refine lv_aload_n hx hb d_C_init_16 rfl (lv_at hl 0 rfl) ?_
  refine lv_aload_n hx hb d_C_init_17 rfl (lv_at hl 2 rfl) ?_
  refine va_putF (D := D) (ci := 1) (v := .ref h1) (ty := (.object "MergeVault$Commit")) (C := R_C) (T := T_C) (N := 7) hx hb hts in_C ty_C ok_C nm_C hown hK hP hD hS 0 rfl rfl 2 (by decide) (hts _ k_254) (fun _ h9 => h9) rfl hin rfl (by decide +kernel) rfl rfl (Nat.le_of_ble_eq_true rfl) d_C_init_18 (fun H locs hP hD hS => ?_)
  have hP : va_P D vwCl ([(h0, .inr (1, [.int k, .int (k + 1), va_rf (some h1), va_rf none, .null, .long 0, .long 0])), (h3, zcT z), (h1, zcC x)]) H := hP
  have hD : va_D A ([(h0, .inr (1, [.int k, .int (k + 1), va_rf (some h1), va_rf none, .null, .long 0, .long 0])), (h3, zcT z), (h1, zcC x)]) := hD
  refine lv_aload_n hx hb d_C_init_21 rfl (lv_at hl 0 rfl) ?_
  refine lv_aload_nN hx hb d_C_init_22 rfl (lv_at hl 3 rfl) ?_
  refine va_putF (D := D) (ci := 1) (v := .null) (ty := (.object "MergeVault$Commit")) (C := R_C) (T := T_C) (N := 7) hx hb hts in_C ty_C ok_C nm_C hown hK hP hD hS 0 rfl rfl 3 (by decide) (hts _ k_256) (fun _ h9 => h9) rfl hin rfl (by decide +kernel) rfl rfl (Nat.le_of_ble_eq_true rfl) d_C_init_23 (fun H locs hP hD hS => ?_)
  have hP : va_P D vwCl ([(h0, .inr (1, [.int k, .int (k + 1), va_rf (some h1), va_rf none, .null, .long 0, .long 0])), (h3, zcT z), (h1, zcC x)]) H := hP
  have hD : va_D A ([(h0, .inr (1, [.int k, .int (k + 1), va_rf (some h1), va_rf none, .null, .long 0, .long 0])), (h3, zcT z), (h1, zcC x)]) := hD
  refine lv_aload_n hx hb d_C_init_26 rfl (lv_at hl 0 rfl) ?_
  refine va_new (ci := 0) (fs := [.long 0, .int 0, .int 0, .int 0, .int 0, .long 0, .int 0, .long 0, .long 0, .int 0]) (C := R_T) (T := T_T) (N := 10) hx hb hts in_T ty_T ok_T hown (hts _ k_230) (hts _ k_49) (hts _ k_30) hK hP hD hS hA rfl (fun j hj => by rcases (show j = 0 ∨ j = 1 ∨ j = 2 ∨ j = 3 ∨ j = 4 ∨ j = 5 ∨ j = 6 ∨ j = 7 ∨ j = 8 ∨ j = 9 by omega) with rfl | rfl | rfl | rfl | rfl | rfl | rfl | rfl | rfl | rfl <;> rfl) (Nat.le_of_ble_eq_true rfl) (Nat.le_of_ble_eq_true rfl) d_C_init_27 (fun q27 H hP hD hS => ?_)
  have hP : va_P D vwCl ([(h0, .inr (1, [.int k, .int (k + 1), va_rf (some h1), va_rf none, .null, .long 0, .long 0])), (h3, zcT z), (h1, zcC x), (q27, .inr (0, [.long 0, .int 0, .int 0, .int 0, .int 0, .long 0, .int 0, .long 0, .long 0, .int 0]))]) H := hP
  have hD : va_D A ([(h0, .inr (1, [.int k, .int (k + 1), va_rf (some h1), va_rf none, .null, .long 0, .long 0])), (h3, zcT z), (h1, zcC x), (q27, .inr (0, [.long 0, .int 0, .int 0, .int 0, .int 0, .long 0, .int 0, .long 0, .long 0, .int 0]))]) := hD
  refine lv_dup hx hb d_C_init_30 rfl ?_
  obtain ⟨v31, hc31, hres⟩ := zo_b hres
  refine va_csv (va_Run.run (va_runIN (As := []) (rest := [.ref q27, .ref h0]) ⟨hx, hb, hml, hown, hts⟩ (c_T_init l D tys q27 v31 hc31) ⟨va_cnB 0 hts g_T_init rfl rfl rfl hN.2.2.2.1 (hts _ k_30) hd_T_init ⟨Nat.le_of_ble_eq_true rfl, Nat.le_of_ble_eq_true rfl⟩, rfl, hts _ k_51⟩ ⟨zro_b _, zro_p va_Pnil hK hN _⟩ rfl rfl hl.1 rfl (lv_room (Nat.le_of_ble_eq_true rfl)) d_C_init_31 ⟨Nat.le_of_ble_eq_true rfl, Nat.le_of_ble_eq_true rfl⟩)) (fun _ => ?_)
  refine va_putF (D := D) (ci := 1) (v := .ref q27) (ty := (.object "MergeVault$Tree")) (C := R_C) (T := T_C) (N := 7) hx hb hts in_C ty_C ok_C nm_C hown hK hP hD hS 0 rfl rfl 4 (by decide) (hts _ k_258) (fun _ h9 => h9) rfl hin rfl (by decide +kernel) rfl rfl (Nat.le_of_ble_eq_true rfl) d_C_init_34 (fun H locs hP hD hS => ?_)
  have hP : va_P D vwCl ([(h0, .inr (1, [.int k, .int (k + 1), va_rf (some h1), va_rf none, .ref q27, .long 0, .long 0])), (h3, zcT z), (h1, zcC x), (q27, .inr (0, [.long 0, .int 0, .int 0, .int 0, .int 0, .long 0, .int 0, .long 0, .long 0, .int 0]))]) H := hP
  have hD : va_D A ([(h0, .inr (1, [.int k, .int (k + 1), va_rf (some h1), va_rf none, .ref q27, .long 0, .long 0])), (h3, zcT z), (h1, zcC x), (q27, .inr (0, [.long 0, .int 0, .int 0, .int 0, .int 0, .long 0, .int 0, .long 0, .long 0, .int 0]))]) := hD
  refine lv_aload_n hx hb d_C_init_37 rfl (lv_at hl 0 rfl) ?_
  refine va_get (D := D) (ci := 1) (v := .ref q27) (C := R_C) (T := T_C) (N := 7) hx hb hts in_C hown hK hP (0) rfl rfl 4 (by decide) (hts _ k_258) (fun _ h9 => h9) rfl d_C_init_38 ?_
  refine lv_aload hx hb d_C_init_41 (lv_at hl 4 rfl) ?_
  obtain ⟨v43, hc43, hres⟩ := zo_b hres
  have hWc : ([3] : List Nat).map (fun i => ([(h0, .inr (1, [.int k, .int (k + 1), va_rf (some h1), va_rf none, .ref q27, .long 0, .long 0])), (h3, zcT z), (h1, zcC x), (q27, .inr (0, [.long 0, .int 0, .int 0, .int 0, .int 0, .long 0, .int 0, .long 0, .long 0, .int 0]))])[i]?) = ([(q27, .inr (0, [.long 0, .int 0, .int 0, .int 0, .int 0, .long 0, .int 0, .long 0, .long 0, .int 0]))] : va_W).map some := (zcons rfl znil)
  have hRc : ([1] : List Nat).map (fun i => ([(h0, .inr (1, [.int k, .int (k + 1), va_rf (some h1), va_rf none, .ref q27, .long 0, .long 0])), (h3, zcT z), (h1, zcC x), (q27, .inr (0, [.long 0, .int 0, .int 0, .int 0, .int 0, .long 0, .int 0, .long 0, .long 0, .int 0]))])[i]?) = ([(h3, zcT z)] : va_W).map some := (zcons rfl znil)
  refine zd_v (wcw := [(q27, .inr (0, [.long 0, .int 0, .int 0, .int 0, .int 0, .long 0, .int 0, .long 0, .long 0, .int 0]))]) (wro := [(h3, zcT z)]) (w1w := [(q27, zcT v43)]) (va_runV (As := [.ref h3]) (rest := []) ⟨hx, hb, hml, hown, hts⟩ (c_T_become l D tys _ q27 h3 (0, 0, 0, 0, 0, 0, 0, 0, 0, 0) z v43 hc43) (cwV 1 hts (zg_V k_232 k_209 k_210 k_30 g_T_become) rfl rfl rfl ⟨rfl, hd_T_become⟩ ⟨Nat.le_of_ble_eq_true rfl, Nat.le_of_ble_eq_true rfl⟩) ⟨zrw_b _, va_recv hK hP (q0 := 3) rfl rfl, zrw_p hP hD hK hN [3] [1] hWc hRc (by decide) _⟩ rfl rfl hl.1 rfl (lv_room (Nat.le_of_ble_eq_true rfl)) d_C_init_43 ⟨Nat.le_of_ble_eq_true rfl, Nat.le_of_ble_eq_true rfl⟩) hP hD hS hA [3] [1] hWc hRc rfl (fun H locs hP hD hS => ?_)
  have hP : va_P D vwCl ([(h0, .inr (1, [.int k, .int (k + 1), va_rf (some h1), va_rf none, .ref q27, .long 0, .long 0])), (h3, zcT z), (h1, zcC x), (q27, zcT v43)]) H := hP
  have hD : va_D A ([(h0, .inr (1, [.int k, .int (k + 1), va_rf (some h1), va_rf none, .ref q27, .long 0, .long 0])), (h3, zcT z), (h1, zcC x), (q27, zcT v43)]) := hD
  refine lv_aload_n hx hb d_C_init_46 rfl (lv_at hl 0 rfl) ?_
  refine lv_lconst (v := 1) hx hb d_C_init_47 (by decide) ?_
  refine lv_iload_n hx hb d_C_init_48 rfl (lv_at hl 1 rfl) ?_
  refine lv_lshl (v := (zs_l 1 k)) hx hb d_C_init_49 rfl ?_
  refine lv_aload_n hx hb d_C_init_50 rfl (lv_at hl 2 rfl) ?_
  obtain ⟨v51, hc51, hres⟩ := zo_b hres
  have hPc := zsubP hP (wc := [(h1, zcC x)]) (is := [2]) (zcons rfl znil)
  refine vp_callSl (va_Run.run (va_runS (As := [.ref h1]) (rest := [.long (zs_l 1 k), .ref h0]) ⟨hx, hb, hml, hown, hts⟩ (c_C_pastOf_r l D tys h1 x v51 hc51) (va_cwS 1 hts (zg_S k_233 k_234 k_35 g_C_pastOf) rfl rfl rfl hd_C_pastOf ⟨Nat.le_of_ble_eq_true rfl, Nat.le_of_ble_eq_true rfl⟩) ⟨zro_b _, zro_p hPc hK hN _⟩ rfl rfl hl.1 rfl (lv_room (Nat.le_of_ble_eq_true rfl)) d_C_init_51 ⟨Nat.le_of_ble_eq_true rfl, Nat.le_of_ble_eq_true rfl⟩)) (fun r_51 er_51 => ?_)
  have er_51 := er_51.symm
  subst er_51
  refine lv_lor hx hb d_C_init_54 ?_
  refine lv_aload_nN hx hb d_C_init_55 rfl (lv_at hl 3 rfl) ?_
  obtain ⟨v56, hc56, hres⟩ := zo_b hres
  refine vp_callSl (va_Run.run (va_runS (As := [.null]) (rest := [.long ((zs_l 1 k) ||| v51), .ref h0]) ⟨hx, hb, hml, hown, hts⟩ (c_C_pastOf_n l D tys v56 hc56) (va_cwS 1 hts (zg_S k_233 k_234 k_35 g_C_pastOf) rfl rfl rfl hd_C_pastOf ⟨Nat.le_of_ble_eq_true rfl, Nat.le_of_ble_eq_true rfl⟩) ⟨zro_b _, zro_p va_Pnil hK hN _⟩ rfl rfl hl.1 rfl (lv_room (Nat.le_of_ble_eq_true rfl)) d_C_init_56 ⟨Nat.le_of_ble_eq_true rfl, Nat.le_of_ble_eq_true rfl⟩)) (fun r_56 er_56 => ?_)
  have er_56 := er_56.symm
  subst er_56
  refine lv_lor hx hb d_C_init_59 ?_
  refine va_putF (D := D) (ci := 1) (v := .long (((zs_l 1 k) ||| v51) ||| v56)) (ty := .long) (C := R_C) (T := T_C) (N := 7) hx hb hts in_C ty_C ok_C nm_C hown hK hP hD hS 0 rfl rfl 5 (by decide) (hts _ k_260) (fun _ h9 => h9) rfl hin rfl (by decide +kernel) rfl rfl (Nat.le_of_ble_eq_true rfl) d_C_init_60 (fun H locs hP hD hS => ?_)
  have hP : va_P D vwCl ([(h0, .inr (1, [.int k, .int (k + 1), va_rf (some h1), va_rf none, .ref q27, .long (((zs_l 1 k) ||| v51) ||| v56), .long 0])), (h3, zcT z), (h1, zcC x), (q27, zcT v43)]) H := hP
  have hD : va_D A ([(h0, .inr (1, [.int k, .int (k + 1), va_rf (some h1), va_rf none, .ref q27, .long (((zs_l 1 k) ||| v51) ||| v56), .long 0])), (h3, zcT z), (h1, zcC x), (q27, zcT v43)]) := hD
  refine lv_aload_n hx hb d_C_init_63 rfl (lv_at hl 0 rfl) ?_
  refine lv_aload_n hx hb d_C_init_64 rfl (lv_at hl 2 rfl) ?_
  refine lv_aload_nN hx hb d_C_init_65 rfl (lv_at hl 3 rfl) ?_
  obtain ⟨v66, hc66, hres⟩ := zo_b hres
  have hPc := zsubP hP (wc := [(h1, zcC x)]) (is := [2]) (zcons rfl znil)
  refine vp_callSl (va_Run.run (va_runS (As := [.ref h1, .null]) (rest := [.ref h0]) ⟨hx, hb, hml, hown, hts⟩ (c_C_hashOfParents_rn l D tys h1 x v66 hc66) (va_cwS 2 hts (zg_S k_236 k_237 k_35 g_C_hashOfParents) rfl rfl rfl hd_C_hashOfParents ⟨Nat.le_of_ble_eq_true rfl, Nat.le_of_ble_eq_true rfl⟩) ⟨zro_b _, zro_p hPc hK hN _⟩ rfl rfl hl.1 rfl (lv_room (Nat.le_of_ble_eq_true rfl)) d_C_init_66 ⟨Nat.le_of_ble_eq_true rfl, Nat.le_of_ble_eq_true rfl⟩)) (fun r_66 er_66 => ?_)
  have er_66 := er_66.symm
  subst er_66
  refine lv_aload_n hx hb d_C_init_69 rfl (lv_at hl 0 rfl) ?_
  refine va_get (D := D) (ci := 1) (v := .int (k + 1)) (C := R_C) (T := T_C) (N := 7) hx hb hts in_C hown hK hP (0) rfl rfl 1 (by decide) (hts _ k_252) (fun _ h9 => h9) rfl d_C_init_70 ?_
  refine lv_i2l (v := (k + 1).toInt64) hx hb d_C_init_73 rfl ?_
  obtain ⟨v74, hc74, hres⟩ := zo_b hres
  refine vp_callSl (va_Run.run (va_runS (As := [.long v66, .long ((k + 1).toInt64)]) (rest := [.ref h0]) ⟨hx, hb, hml, hown, hts⟩ (c_C_mixed l D tys v66 ((k + 1).toInt64) v74 hc74) (va_cwS 2 hts (zg_S k_240 k_241 k_35 g_C_mixed) rfl rfl rfl hd_C_mixed ⟨Nat.le_of_ble_eq_true rfl, Nat.le_of_ble_eq_true rfl⟩) ⟨zro_b _, zro_p va_Pnil hK hN _⟩ rfl rfl hl.1 rfl (lv_room (Nat.le_of_ble_eq_true rfl)) d_C_init_74 ⟨Nat.le_of_ble_eq_true rfl, Nat.le_of_ble_eq_true rfl⟩)) (fun r_74 er_74 => ?_)
  have er_74 := er_74.symm
  subst er_74
  refine lv_aload hx hb d_C_init_77 (lv_at hl 4 rfl) ?_
  obtain ⟨v79, hc79, hres⟩ := zo_b hres
  have hPc := zsubP hP (wc := [(h3, zcT z)]) (is := [1]) (zcons rfl znil)
  refine vp_callSl (va_Run.run (va_runS (As := [.long v74, .ref h3]) (rest := [.ref h0]) ⟨hx, hb, hml, hown, hts⟩ (c_C_hashWithTree l D tys h3 v74 z v79 hc79) (va_cwS 2 hts (zg_S k_246 k_247 k_35 g_C_hashWithTree) rfl rfl rfl hd_C_hashWithTree ⟨Nat.le_of_ble_eq_true rfl, Nat.le_of_ble_eq_true rfl⟩) ⟨zro_b _, zro_p hPc hK hN _⟩ rfl rfl hl.1 rfl (lv_room (Nat.le_of_ble_eq_true rfl)) d_C_init_79 ⟨Nat.le_of_ble_eq_true rfl, Nat.le_of_ble_eq_true rfl⟩)) (fun r_79 er_79 => ?_)
  have er_79 := er_79.symm
  subst er_79
  refine va_putF (D := D) (ci := 1) (v := .long v79) (ty := .long) (C := R_C) (T := T_C) (N := 7) hx hb hts in_C ty_C ok_C nm_C hown hK hP hD hS 0 rfl rfl 6 (by decide) (hts _ k_262) (fun _ h9 => h9) rfl hin rfl (by decide +kernel) rfl rfl (Nat.le_of_ble_eq_true rfl) d_C_init_82 (fun H locs hP hD hS => ?_)
  have hP : va_P D vwCl ([(h0, .inr (1, [.int k, .int (k + 1), va_rf (some h1), va_rf none, .ref q27, .long (((zs_l 1 k) ||| v51) ||| v56), .long v79])), (h3, zcT z), (h1, zcC x), (q27, zcT v43)]) H := hP
  have hD : va_D A ([(h0, .inr (1, [.int k, .int (k + 1), va_rf (some h1), va_rf none, .ref q27, .long (((zs_l 1 k) ||| v51) ||| v56), .long v79])), (h3, zcT z), (h1, zcC x), (q27, zcT v43)]) := hD
  obtain rfl := Option.some.inj hres
  refine W.widen (k := 1) (n := 10) (by omega) (by omega) ?_
  exact W.vret hx hb hr (fun t ht hW => ⟨⟨q27, rfl, trivial, by rw [ht]; exact hP, va_K.moved hW.alike hK, hD⟩, hS.F ht⟩) hS.2.2 d_C_init_85
abbrev qd_C_init_rrr (D : va_G) (tys : List (ClassId × FieldType)) (h0 : Nat) (h3 : Nat) (k : Int32) (h1 : Nat) (h2 : Nat) (x : ComV) (y : ComV) (z : TreeV) (v : Int32 × Int32 × (Option Nat) × (Option Nat) × Int64 × Int64 × TreeV) (A : Nat → Prop) : Array Value → State → Outcome → State → Prop := va_Qv (fun _ : Nat => True) (fun u t => zwd D tys (A) ([(h0, zcC (v.1, v.2.1, v.2.2.1, v.2.2.2.1, u, v.2.2.2.2.1, v.2.2.2.2.2.1))] ++ [(h3, zcT z), (h1, zcC x), (h2, zcC y)] ++ [(u, zcT v.2.2.2.2.2.2)]) t) (A)

def f_C_init_rrr (k : Int32) (h1 : Nat) (h2 : Nat) (x : ComV) (y : ComV) (z : TreeV) : Option (Int32 × Int32 × (Option Nat) × (Option Nat) × Int64 × Int64 × TreeV) :=
  Option.bind (f_T_init) (fun v31 =>
    Option.bind (f_T_become (0, 0, 0, 0, 0, 0, 0, 0, 0, 0) z) (fun v43 =>
      Option.bind (f_C_pastOf_r x) (fun v51 =>
        Option.bind (f_C_pastOf_r y) (fun v56 =>
          Option.bind (f_C_hashOfParents_rr x y) (fun v66 =>
            Option.bind (f_C_mixed v66 ((k + 1).toInt64)) (fun v74 =>
              Option.bind (f_C_hashWithTree v74 z) (fun v79 =>
                some (k, (k + 1), some h1, some h2, (((zs_l 1 k) ||| v51) ||| v56), v79, v43))))))))
set_option maxHeartbeats 4000000 in
set_option maxRecDepth 100000 in
theorem c_C_init_rrr (l : Launch) (D : va_G) (tys : List (ClassId × FieldType)) (sz : Nat) (h0 : Nat) (h3 : Nat) (k : Int32) (h1 : Nat) (h2 : Nat) (x : ComV) (y : ComV) (z : TreeV) (v : Int32 × Int32 × (Option Nat) × (Option Nat) × Int64 × Int64 × TreeV) (hres : f_C_init_rrr k h1 h2 x y z = some v) : Met l y_C_init w_C_init ({ frames := 2, cells := 1, slots := 10, locals := 50 } : Room) (va_Pc ([.ref h0, .int k, .ref h1, .ref h2, .ref h3]) (zrw D tys sz ([(h0, .inr (1, [.int 0, .int 0, va_rf none, va_rf none, .null, .long 0, .long 0]))] ++ [(h3, zcT z), (h1, zcC x), (h2, zcC y)]))) (qd_C_init_rrr D tys h0 h3 k h1 h2 x y z v (va_A ([(h0, .inr (1, [.int 0, .int 0, va_rf none, va_rf none, .null, .long 0, .long 0]))] ++ [(h3, zcT z), (h1, zcC x), (h2, zcC y)]) sz)) 1 10 (va_A ([(h0, .inr (1, [.int 0, .int 0, va_rf none, va_rf none, .null, .long 0, .long 0]))] ++ [(h3, zcT z), (h1, zcC x), (h2, zcC y)]) sz) := by
  refine Met.ofW (cc := b_C_init) (maxL := 5) (ret := none) (by decide) rfl ?_
  intro p e s m args below meth c s₁ B hml hv
  obtain ⟨rfl, hsz, hP, hK, hD0, hN⟩ := hv
  have hx := B.exec
  have hb := B.bytes
  have hr := B.returns
  have hts : ∀ w ∈ zt, w.before ([.ref h0, .int k, .ref h1, .ref h2, .ref h3].toArray) s = true := fun w h => atoms_spec (ws := w_C_init) B.pre w (List.mem_cons_of_mem _ h)
  have hown : s.vm.findClass R_C = some m.cls := findClass_of_methodNamed B.named
  have hlocks := B.notSynchronized
  have hin : meth.name = "<init>" := (name_of_methodNamed B.named B.method).1
  subst hsz
  have hD := hD0.self (sz := s.heap.size)
  generalize hAe : va_A ([(h0, .inr (1, [.int 0, .int 0, va_rf none, va_rf none, .null, .long 0, .long 0]))] ++ [(h3, zcT z), (h1, zcC x), (h2, zcC y)]) s.heap.size = A at hD ⊢
  have hA : ∀ q : Nat, s.heap.size ≤ q → A q := fun q h => by rw [← hAe]; exact Or.inr h
  have hS : va_S A s.heap s.heap [] := va_S.rf
  have hP : va_P D vwCl ([(h0, .inr (1, [.int 0, .int 0, va_rf none, va_rf none, .null, .long 0, .long 0])), (h3, zcT z), (h1, zcC x), (h2, zcC y)]) s.heap := hP
  have hD : va_D A ([(h0, .inr (1, [.int 0, .int 0, va_rf none, va_rf none, .null, .long 0, .long 0])), (h3, zcT z), (h1, zcC x), (h2, zcC y)]) := hD
  have hl := lv_entry ([.ref h0, .int k, .ref h1, .ref h2, .ref h3]) (n := 5) (Nat.le_of_ble_eq_true rfl)
  rw [lg_entry_eq]
  generalize (lg_sl ([.ref h0, .int k, .ref h1, .ref h2, .ref h3]) ++ List.replicate (5 - (lg_sl ([.ref h0, .int k, .ref h1, .ref h2, .ref h3])).length) Slot.unset).toArray = ls at hl ⊢
  have hl : lv_has ls 5 [(0, .ref h0), (1, .int k), (2, .ref h1), (3, .ref h2), (4, .ref h3)] := hl
  unfold f_C_init_rrr at hres
  refine lv_aload_n hx hb d_C_init_0 rfl (lv_at hl 0 rfl) ?_
  refine W.objInit hx hb hown (hts _ k_229) (hts _ k_44) (hts _ m_objectInit) rfl (by rw [hml]; exact hl.1) rfl d_C_init_1 (Nat.le_of_ble_eq_true rfl) (Nat.le_of_ble_eq_true rfl) ?_
  refine W.eq (g2 := F0 m 4 ls []) rfl ?_
  refine lv_aload_n hx hb d_C_init_4 rfl (lv_at hl 0 rfl) ?_
  refine lv_iload_n hx hb d_C_init_5 rfl (lv_at hl 1 rfl) ?_
  refine va_putF (D := D) (ci := 1) (v := .int k) (ty := .int) (C := R_C) (T := T_C) (N := 7) hx hb hts in_C ty_C ok_C nm_C hown hK hP hD hS 0 rfl rfl 0 (by decide) (hts _ k_250) (fun _ h9 => h9) rfl hin rfl (by decide +kernel) rfl rfl (Nat.le_of_ble_eq_true rfl) d_C_init_6 (fun H locs hP hD hS => ?_)
  have hP : va_P D vwCl ([(h0, .inr (1, [.int k, .int 0, va_rf none, va_rf none, .null, .long 0, .long 0])), (h3, zcT z), (h1, zcC x), (h2, zcC y)]) H := hP
  have hD : va_D A ([(h0, .inr (1, [.int k, .int 0, va_rf none, va_rf none, .null, .long 0, .long 0])), (h3, zcT z), (h1, zcC x), (h2, zcC y)]) := hD
  refine lv_aload_n hx hb d_C_init_9 rfl (lv_at hl 0 rfl) ?_
  refine lv_iload_n hx hb d_C_init_10 rfl (lv_at hl 1 rfl) ?_
  refine lv_iconst (v := 1) hx hb d_C_init_11 (by decide) ?_
  refine lv_iadd hx hb d_C_init_12 ?_
  refine va_putF (D := D) (ci := 1) (v := .int (k + 1)) (ty := .int) (C := R_C) (T := T_C) (N := 7) hx hb hts in_C ty_C ok_C nm_C hown hK hP hD hS 0 rfl rfl 1 (by decide) (hts _ k_252) (fun _ h9 => h9) rfl hin rfl (by decide +kernel) rfl rfl (Nat.le_of_ble_eq_true rfl) d_C_init_13 (fun H locs hP hD hS => ?_)
  have hP : va_P D vwCl ([(h0, .inr (1, [.int k, .int (k + 1), va_rf none, va_rf none, .null, .long 0, .long 0])), (h3, zcT z), (h1, zcC x), (h2, zcC y)]) H := hP
  have hD : va_D A ([(h0, .inr (1, [.int k, .int (k + 1), va_rf none, va_rf none, .null, .long 0, .long 0])), (h3, zcT z), (h1, zcC x), (h2, zcC y)]) := hD
  refine lv_aload_n hx hb d_C_init_16 rfl (lv_at hl 0 rfl) ?_
  refine lv_aload_n hx hb d_C_init_17 rfl (lv_at hl 2 rfl) ?_
  refine va_putF (D := D) (ci := 1) (v := .ref h1) (ty := (.object "MergeVault$Commit")) (C := R_C) (T := T_C) (N := 7) hx hb hts in_C ty_C ok_C nm_C hown hK hP hD hS 0 rfl rfl 2 (by decide) (hts _ k_254) (fun _ h9 => h9) rfl hin rfl (by decide +kernel) rfl rfl (Nat.le_of_ble_eq_true rfl) d_C_init_18 (fun H locs hP hD hS => ?_)
  have hP : va_P D vwCl ([(h0, .inr (1, [.int k, .int (k + 1), va_rf (some h1), va_rf none, .null, .long 0, .long 0])), (h3, zcT z), (h1, zcC x), (h2, zcC y)]) H := hP
  have hD : va_D A ([(h0, .inr (1, [.int k, .int (k + 1), va_rf (some h1), va_rf none, .null, .long 0, .long 0])), (h3, zcT z), (h1, zcC x), (h2, zcC y)]) := hD
  refine lv_aload_n hx hb d_C_init_21 rfl (lv_at hl 0 rfl) ?_
  refine lv_aload_n hx hb d_C_init_22 rfl (lv_at hl 3 rfl) ?_
  refine va_putF (D := D) (ci := 1) (v := .ref h2) (ty := (.object "MergeVault$Commit")) (C := R_C) (T := T_C) (N := 7) hx hb hts in_C ty_C ok_C nm_C hown hK hP hD hS 0 rfl rfl 3 (by decide) (hts _ k_256) (fun _ h9 => h9) rfl hin rfl (by decide +kernel) rfl rfl (Nat.le_of_ble_eq_true rfl) d_C_init_23 (fun H locs hP hD hS => ?_)
  have hP : va_P D vwCl ([(h0, .inr (1, [.int k, .int (k + 1), va_rf (some h1), va_rf (some h2), .null, .long 0, .long 0])), (h3, zcT z), (h1, zcC x), (h2, zcC y)]) H := hP
  have hD : va_D A ([(h0, .inr (1, [.int k, .int (k + 1), va_rf (some h1), va_rf (some h2), .null, .long 0, .long 0])), (h3, zcT z), (h1, zcC x), (h2, zcC y)]) := hD
  refine lv_aload_n hx hb d_C_init_26 rfl (lv_at hl 0 rfl) ?_
  refine va_new (ci := 0) (fs := [.long 0, .int 0, .int 0, .int 0, .int 0, .long 0, .int 0, .long 0, .long 0, .int 0]) (C := R_T) (T := T_T) (N := 10) hx hb hts in_T ty_T ok_T hown (hts _ k_230) (hts _ k_49) (hts _ k_30) hK hP hD hS hA rfl (fun j hj => by rcases (show j = 0 ∨ j = 1 ∨ j = 2 ∨ j = 3 ∨ j = 4 ∨ j = 5 ∨ j = 6 ∨ j = 7 ∨ j = 8 ∨ j = 9 by omega) with rfl | rfl | rfl | rfl | rfl | rfl | rfl | rfl | rfl | rfl <;> rfl) (Nat.le_of_ble_eq_true rfl) (Nat.le_of_ble_eq_true rfl) d_C_init_27 (fun q27 H hP hD hS => ?_)
  have hP : va_P D vwCl ([(h0, .inr (1, [.int k, .int (k + 1), va_rf (some h1), va_rf (some h2), .null, .long 0, .long 0])), (h3, zcT z), (h1, zcC x), (h2, zcC y), (q27, .inr (0, [.long 0, .int 0, .int 0, .int 0, .int 0, .long 0, .int 0, .long 0, .long 0, .int 0]))]) H := hP
  have hD : va_D A ([(h0, .inr (1, [.int k, .int (k + 1), va_rf (some h1), va_rf (some h2), .null, .long 0, .long 0])), (h3, zcT z), (h1, zcC x), (h2, zcC y), (q27, .inr (0, [.long 0, .int 0, .int 0, .int 0, .int 0, .long 0, .int 0, .long 0, .long 0, .int 0]))]) := hD
  refine lv_dup hx hb d_C_init_30 rfl ?_
  obtain ⟨v31, hc31, hres⟩ := zo_b hres
  refine va_csv (va_Run.run (va_runIN (As := []) (rest := [.ref q27, .ref h0]) ⟨hx, hb, hml, hown, hts⟩ (c_T_init l D tys q27 v31 hc31) ⟨va_cnB 0 hts g_T_init rfl rfl rfl hN.2.2.2.1 (hts _ k_30) hd_T_init ⟨Nat.le_of_ble_eq_true rfl, Nat.le_of_ble_eq_true rfl⟩, rfl, hts _ k_51⟩ ⟨zro_b _, zro_p va_Pnil hK hN _⟩ rfl rfl hl.1 rfl (lv_room (Nat.le_of_ble_eq_true rfl)) d_C_init_31 ⟨Nat.le_of_ble_eq_true rfl, Nat.le_of_ble_eq_true rfl⟩)) (fun _ => ?_)
  refine va_putF (D := D) (ci := 1) (v := .ref q27) (ty := (.object "MergeVault$Tree")) (C := R_C) (T := T_C) (N := 7) hx hb hts in_C ty_C ok_C nm_C hown hK hP hD hS 0 rfl rfl 4 (by decide) (hts _ k_258) (fun _ h9 => h9) rfl hin rfl (by decide +kernel) rfl rfl (Nat.le_of_ble_eq_true rfl) d_C_init_34 (fun H locs hP hD hS => ?_)
  have hP : va_P D vwCl ([(h0, .inr (1, [.int k, .int (k + 1), va_rf (some h1), va_rf (some h2), .ref q27, .long 0, .long 0])), (h3, zcT z), (h1, zcC x), (h2, zcC y), (q27, .inr (0, [.long 0, .int 0, .int 0, .int 0, .int 0, .long 0, .int 0, .long 0, .long 0, .int 0]))]) H := hP
  have hD : va_D A ([(h0, .inr (1, [.int k, .int (k + 1), va_rf (some h1), va_rf (some h2), .ref q27, .long 0, .long 0])), (h3, zcT z), (h1, zcC x), (h2, zcC y), (q27, .inr (0, [.long 0, .int 0, .int 0, .int 0, .int 0, .long 0, .int 0, .long 0, .long 0, .int 0]))]) := hD
  refine lv_aload_n hx hb d_C_init_37 rfl (lv_at hl 0 rfl) ?_
  refine va_get (D := D) (ci := 1) (v := .ref q27) (C := R_C) (T := T_C) (N := 7) hx hb hts in_C hown hK hP (0) rfl rfl 4 (by decide) (hts _ k_258) (fun _ h9 => h9) rfl d_C_init_38 ?_
  refine lv_aload hx hb d_C_init_41 (lv_at hl 4 rfl) ?_
  obtain ⟨v43, hc43, hres⟩ := zo_b hres
  have hWc : ([4] : List Nat).map (fun i => ([(h0, .inr (1, [.int k, .int (k + 1), va_rf (some h1), va_rf (some h2), .ref q27, .long 0, .long 0])), (h3, zcT z), (h1, zcC x), (h2, zcC y), (q27, .inr (0, [.long 0, .int 0, .int 0, .int 0, .int 0, .long 0, .int 0, .long 0, .long 0, .int 0]))])[i]?) = ([(q27, .inr (0, [.long 0, .int 0, .int 0, .int 0, .int 0, .long 0, .int 0, .long 0, .long 0, .int 0]))] : va_W).map some := (zcons rfl znil)
  have hRc : ([1] : List Nat).map (fun i => ([(h0, .inr (1, [.int k, .int (k + 1), va_rf (some h1), va_rf (some h2), .ref q27, .long 0, .long 0])), (h3, zcT z), (h1, zcC x), (h2, zcC y), (q27, .inr (0, [.long 0, .int 0, .int 0, .int 0, .int 0, .long 0, .int 0, .long 0, .long 0, .int 0]))])[i]?) = ([(h3, zcT z)] : va_W).map some := (zcons rfl znil)
  refine zd_v (wcw := [(q27, .inr (0, [.long 0, .int 0, .int 0, .int 0, .int 0, .long 0, .int 0, .long 0, .long 0, .int 0]))]) (wro := [(h3, zcT z)]) (w1w := [(q27, zcT v43)]) (va_runV (As := [.ref h3]) (rest := []) ⟨hx, hb, hml, hown, hts⟩ (c_T_become l D tys _ q27 h3 (0, 0, 0, 0, 0, 0, 0, 0, 0, 0) z v43 hc43) (cwV 1 hts (zg_V k_232 k_209 k_210 k_30 g_T_become) rfl rfl rfl ⟨rfl, hd_T_become⟩ ⟨Nat.le_of_ble_eq_true rfl, Nat.le_of_ble_eq_true rfl⟩) ⟨zrw_b _, va_recv hK hP (q0 := 4) rfl rfl, zrw_p hP hD hK hN [4] [1] hWc hRc (by decide) _⟩ rfl rfl hl.1 rfl (lv_room (Nat.le_of_ble_eq_true rfl)) d_C_init_43 ⟨Nat.le_of_ble_eq_true rfl, Nat.le_of_ble_eq_true rfl⟩) hP hD hS hA [4] [1] hWc hRc rfl (fun H locs hP hD hS => ?_)
  have hP : va_P D vwCl ([(h0, .inr (1, [.int k, .int (k + 1), va_rf (some h1), va_rf (some h2), .ref q27, .long 0, .long 0])), (h3, zcT z), (h1, zcC x), (h2, zcC y), (q27, zcT v43)]) H := hP
  have hD : va_D A ([(h0, .inr (1, [.int k, .int (k + 1), va_rf (some h1), va_rf (some h2), .ref q27, .long 0, .long 0])), (h3, zcT z), (h1, zcC x), (h2, zcC y), (q27, zcT v43)]) := hD
  refine lv_aload_n hx hb d_C_init_46 rfl (lv_at hl 0 rfl) ?_
  refine lv_lconst (v := 1) hx hb d_C_init_47 (by decide) ?_
  refine lv_iload_n hx hb d_C_init_48 rfl (lv_at hl 1 rfl) ?_
  refine lv_lshl (v := (zs_l 1 k)) hx hb d_C_init_49 rfl ?_
  refine lv_aload_n hx hb d_C_init_50 rfl (lv_at hl 2 rfl) ?_
  obtain ⟨v51, hc51, hres⟩ := zo_b hres
  have hPc := zsubP hP (wc := [(h1, zcC x)]) (is := [2]) (zcons rfl znil)
  refine vp_callSl (va_Run.run (va_runS (As := [.ref h1]) (rest := [.long (zs_l 1 k), .ref h0]) ⟨hx, hb, hml, hown, hts⟩ (c_C_pastOf_r l D tys h1 x v51 hc51) (va_cwS 1 hts (zg_S k_233 k_234 k_35 g_C_pastOf) rfl rfl rfl hd_C_pastOf ⟨Nat.le_of_ble_eq_true rfl, Nat.le_of_ble_eq_true rfl⟩) ⟨zro_b _, zro_p hPc hK hN _⟩ rfl rfl hl.1 rfl (lv_room (Nat.le_of_ble_eq_true rfl)) d_C_init_51 ⟨Nat.le_of_ble_eq_true rfl, Nat.le_of_ble_eq_true rfl⟩)) (fun r_51 er_51 => ?_)
  have er_51 := er_51.symm
  subst er_51
  refine lv_lor hx hb d_C_init_54 ?_
  refine lv_aload_n hx hb d_C_init_55 rfl (lv_at hl 3 rfl) ?_
  obtain ⟨v56, hc56, hres⟩ := zo_b hres
  have hPc := zsubP hP (wc := [(h2, zcC y)]) (is := [3]) (zcons rfl znil)
  refine vp_callSl (va_Run.run (va_runS (As := [.ref h2]) (rest := [.long ((zs_l 1 k) ||| v51), .ref h0]) ⟨hx, hb, hml, hown, hts⟩ (c_C_pastOf_r l D tys h2 y v56 hc56) (va_cwS 1 hts (zg_S k_233 k_234 k_35 g_C_pastOf) rfl rfl rfl hd_C_pastOf ⟨Nat.le_of_ble_eq_true rfl, Nat.le_of_ble_eq_true rfl⟩) ⟨zro_b _, zro_p hPc hK hN _⟩ rfl rfl hl.1 rfl (lv_room (Nat.le_of_ble_eq_true rfl)) d_C_init_56 ⟨Nat.le_of_ble_eq_true rfl, Nat.le_of_ble_eq_true rfl⟩)) (fun r_56 er_56 => ?_)
  have er_56 := er_56.symm
  subst er_56
  refine lv_lor hx hb d_C_init_59 ?_
  refine va_putF (D := D) (ci := 1) (v := .long (((zs_l 1 k) ||| v51) ||| v56)) (ty := .long) (C := R_C) (T := T_C) (N := 7) hx hb hts in_C ty_C ok_C nm_C hown hK hP hD hS 0 rfl rfl 5 (by decide) (hts _ k_260) (fun _ h9 => h9) rfl hin rfl (by decide +kernel) rfl rfl (Nat.le_of_ble_eq_true rfl) d_C_init_60 (fun H locs hP hD hS => ?_)
  have hP : va_P D vwCl ([(h0, .inr (1, [.int k, .int (k + 1), va_rf (some h1), va_rf (some h2), .ref q27, .long (((zs_l 1 k) ||| v51) ||| v56), .long 0])), (h3, zcT z), (h1, zcC x), (h2, zcC y), (q27, zcT v43)]) H := hP
  have hD : va_D A ([(h0, .inr (1, [.int k, .int (k + 1), va_rf (some h1), va_rf (some h2), .ref q27, .long (((zs_l 1 k) ||| v51) ||| v56), .long 0])), (h3, zcT z), (h1, zcC x), (h2, zcC y), (q27, zcT v43)]) := hD
  refine lv_aload_n hx hb d_C_init_63 rfl (lv_at hl 0 rfl) ?_
  refine lv_aload_n hx hb d_C_init_64 rfl (lv_at hl 2 rfl) ?_
  refine lv_aload_n hx hb d_C_init_65 rfl (lv_at hl 3 rfl) ?_
  obtain ⟨v66, hc66, hres⟩ := zo_b hres
  have hPc := zsubP hP (wc := [(h1, zcC x), (h2, zcC y)]) (is := [2, 3]) (zcons rfl (zcons rfl znil))
  refine vp_callSl (va_Run.run (va_runS (As := [.ref h1, .ref h2]) (rest := [.ref h0]) ⟨hx, hb, hml, hown, hts⟩ (c_C_hashOfParents_rr l D tys h1 h2 x y v66 hc66) (va_cwS 2 hts (zg_S k_236 k_237 k_35 g_C_hashOfParents) rfl rfl rfl hd_C_hashOfParents ⟨Nat.le_of_ble_eq_true rfl, Nat.le_of_ble_eq_true rfl⟩) ⟨zro_b _, zro_p hPc hK hN _⟩ rfl rfl hl.1 rfl (lv_room (Nat.le_of_ble_eq_true rfl)) d_C_init_66 ⟨Nat.le_of_ble_eq_true rfl, Nat.le_of_ble_eq_true rfl⟩)) (fun r_66 er_66 => ?_)
  have er_66 := er_66.symm
  subst er_66
  refine lv_aload_n hx hb d_C_init_69 rfl (lv_at hl 0 rfl) ?_
  refine va_get (D := D) (ci := 1) (v := .int (k + 1)) (C := R_C) (T := T_C) (N := 7) hx hb hts in_C hown hK hP (0) rfl rfl 1 (by decide) (hts _ k_252) (fun _ h9 => h9) rfl d_C_init_70 ?_
  refine lv_i2l (v := (k + 1).toInt64) hx hb d_C_init_73 rfl ?_
  obtain ⟨v74, hc74, hres⟩ := zo_b hres
  refine vp_callSl (va_Run.run (va_runS (As := [.long v66, .long ((k + 1).toInt64)]) (rest := [.ref h0]) ⟨hx, hb, hml, hown, hts⟩ (c_C_mixed l D tys v66 ((k + 1).toInt64) v74 hc74) (va_cwS 2 hts (zg_S k_240 k_241 k_35 g_C_mixed) rfl rfl rfl hd_C_mixed ⟨Nat.le_of_ble_eq_true rfl, Nat.le_of_ble_eq_true rfl⟩) ⟨zro_b _, zro_p va_Pnil hK hN _⟩ rfl rfl hl.1 rfl (lv_room (Nat.le_of_ble_eq_true rfl)) d_C_init_74 ⟨Nat.le_of_ble_eq_true rfl, Nat.le_of_ble_eq_true rfl⟩)) (fun r_74 er_74 => ?_)
  have er_74 := er_74.symm
  subst er_74
  refine lv_aload hx hb d_C_init_77 (lv_at hl 4 rfl) ?_
  obtain ⟨v79, hc79, hres⟩ := zo_b hres
  have hPc := zsubP hP (wc := [(h3, zcT z)]) (is := [1]) (zcons rfl znil)
  refine vp_callSl (va_Run.run (va_runS (As := [.long v74, .ref h3]) (rest := [.ref h0]) ⟨hx, hb, hml, hown, hts⟩ (c_C_hashWithTree l D tys h3 v74 z v79 hc79) (va_cwS 2 hts (zg_S k_246 k_247 k_35 g_C_hashWithTree) rfl rfl rfl hd_C_hashWithTree ⟨Nat.le_of_ble_eq_true rfl, Nat.le_of_ble_eq_true rfl⟩) ⟨zro_b _, zro_p hPc hK hN _⟩ rfl rfl hl.1 rfl (lv_room (Nat.le_of_ble_eq_true rfl)) d_C_init_79 ⟨Nat.le_of_ble_eq_true rfl, Nat.le_of_ble_eq_true rfl⟩)) (fun r_79 er_79 => ?_)
  have er_79 := er_79.symm
  subst er_79
  refine va_putF (D := D) (ci := 1) (v := .long v79) (ty := .long) (C := R_C) (T := T_C) (N := 7) hx hb hts in_C ty_C ok_C nm_C hown hK hP hD hS 0 rfl rfl 6 (by decide) (hts _ k_262) (fun _ h9 => h9) rfl hin rfl (by decide +kernel) rfl rfl (Nat.le_of_ble_eq_true rfl) d_C_init_82 (fun H locs hP hD hS => ?_)
  have hP : va_P D vwCl ([(h0, .inr (1, [.int k, .int (k + 1), va_rf (some h1), va_rf (some h2), .ref q27, .long (((zs_l 1 k) ||| v51) ||| v56), .long v79])), (h3, zcT z), (h1, zcC x), (h2, zcC y), (q27, zcT v43)]) H := hP
  have hD : va_D A ([(h0, .inr (1, [.int k, .int (k + 1), va_rf (some h1), va_rf (some h2), .ref q27, .long (((zs_l 1 k) ||| v51) ||| v56), .long v79])), (h3, zcT z), (h1, zcC x), (h2, zcC y), (q27, zcT v43)]) := hD
  obtain rfl := Option.some.inj hres
  refine W.widen (k := 1) (n := 10) (by omega) (by omega) ?_
  exact W.vret hx hb hr (fun t ht hW => ⟨⟨q27, rfl, trivial, by rw [ht]; exact hP, va_K.moved hW.alike hK, hD⟩, hS.F ht⟩) hS.2.2 d_C_init_85

abbrev RSt : Type := ((((((Nat → Int64) × (Nat → Int32)) × (Nat → Int32)) × (((Nat → Int32) × (Nat → Int64)) × (Nat → Int32))) × ((((Nat → Int32) × (Nat → Int32)) × (Nat → Int64)) × (((Nat → Int64) × (Nat → Int32)) × Int32))) × (((((Nat → Int32) × (Nat → Int32)) × (Nat → Int64)) × (((Nat → Int64) × (Nat → Int32)) × (Nat → Int32))) × (((Int32 × (Nat → Int32)) × (Nat → Int32)) × ((Nat → Int32) × (Nat → Int32)))))
abbrev zR (q : Nat → Nat) (cR : Nat → ClassId) (ρ : RSt) : va_W := [(q 0, .inr (4, [.ref (q 1), .ref (q 2), .ref (q 3), .ref (q 4), .ref (q 5), .ref (q 6), .ref (q 7), .ref (q 8), .ref (q 9), .ref (q 10), .ref (q 11), .int ρ.1.2.2.2, .ref (q 12), .ref (q 13), .ref (q 14), .ref (q 15), .ref (q 16), .ref (q 17), .int ρ.2.2.1.1.1, .ref (q 18), .ref (q 19), .ref (q 20), .ref (q 21)])), (q 1, .inl (cR 1, 67, .inr (.inl ρ.1.1.1.1.1))), (q 2, .inl (cR 2, 67, .inl ρ.1.1.1.1.2)), (q 3, .inl (cR 3, 67, .inl ρ.1.1.1.2)), (q 4, .inl (cR 4, 67, .inl ρ.1.1.2.1.1)), (q 5, .inl (cR 5, 67, .inr (.inl ρ.1.1.2.1.2))), (q 6, .inl (cR 6, 67, .inl ρ.1.1.2.2)), (q 7, .inl (cR 7, 536, .inl ρ.1.2.1.1.1)), (q 8, .inl (cR 8, 67, .inl ρ.1.2.1.1.2)), (q 9, .inl (cR 9, 67, .inr (.inl ρ.1.2.1.2))), (q 10, .inl (cR 10, 67, .inr (.inl ρ.1.2.2.1.1))), (q 11, .inl (cR 11, 67, .inl ρ.1.2.2.1.2)), (q 12, .inl (cR 12, 60, .inl ρ.2.1.1.1.1)), (q 13, .inl (cR 13, 60, .inl ρ.2.1.1.1.2)), (q 14, .inl (cR 14, 60, .inr (.inl ρ.2.1.1.2))), (q 15, .inl (cR 15, 60, .inr (.inl ρ.2.1.2.1.1))), (q 16, .inl (cR 16, 4, .inl ρ.2.1.2.1.2)), (q 17, .inl (cR 17, 4, .inl ρ.2.1.2.2)), (q 18, .inl (cR 18, 100, .inl ρ.2.2.1.1.2)), (q 19, .inl (cR 19, 5, .inl ρ.2.2.1.2)), (q 20, .inl (cR 20, 5, .inl ρ.2.2.2.1)), (q 21, .inl (cR 21, 5, .inl ρ.2.2.2.2))]
abbrev zRt (cR : Nat → ClassId) : List (ClassId × FieldType) := [(cR 1, .long), (cR 2, .int), (cR 3, .int), (cR 4, .int), (cR 5, .long), (cR 6, .int), (cR 7, .int), (cR 8, .boolean), (cR 9, .long), (cR 10, .long), (cR 11, .int), (cR 12, .int), (cR 13, .int), (cR 14, .long), (cR 15, .long), (cR 16, .int), (cR 17, .boolean), (cR 18, .int), (cR 19, .int), (cR 20, .int), (cR 21, .int)]
abbrev qd_R_apply (D : va_G) (tys : List (ClassId × FieldType)) (q : Nat → Nat) (cR : Nat → ClassId) (ρ : RSt) (a0 : Int32) (a1 : Int64) (v : RSt) (A : Nat → Prop) : Array Value → State → Outcome → State → Prop := va_Qv (fun _ : Unit => True) (fun _ t => zwd D (zRt cR) (A) (zR q cR v) t) (A)

def L_R_apply_186 : Nat → Int32 → RSt → Option (Int32 × RSt)
  | 0, _, _ => none
  | n + 1, x186_5, g186 =>
    if (g186.1.1.2.2 ((65 : Int32).toNatClampNeg)) ≤ x186_5 then
      some (x186_5, g186)
    else
      if zin (((8 * 65) + x186_5) + 1) 536 then
        if zin ((8 * 65) + x186_5) 536 then
          L_R_apply_186 n (x186_5 + 1) (((((g186.1.1.1.1.1, g186.1.1.1.1.2), g186.1.1.1.2), ((g186.1.1.2.1.1, g186.1.1.2.1.2), g186.1.1.2.2)), ((((upd g186.1.2.1.1.1 ((8 * 65) + x186_5).toNatClampNeg (g186.1.2.1.1.1 (((8 * 65) + x186_5) + 1).toNatClampNeg)), g186.1.2.1.1.2), g186.1.2.1.2), ((g186.1.2.2.1.1, g186.1.2.2.1.2), g186.1.2.2.2))), ((((g186.2.1.1.1.1, g186.2.1.1.1.2), g186.2.1.1.2), ((g186.2.1.2.1.1, g186.2.1.2.1.2), g186.2.1.2.2)), (((g186.2.2.1.1.1, g186.2.2.1.1.2), g186.2.2.1.2), (g186.2.2.2.1, g186.2.2.2.2))))
        else
          none
      else
        none
def J_R_apply_264 (ρ : RSt) (j264_s0 : Int64) : Option (RSt) :=
  some (((((ρ.1.1.1.1.1, ρ.1.1.1.1.2), ρ.1.1.1.2), ((ρ.1.1.2.1.1, ρ.1.1.2.1.2), ρ.1.1.2.2)), (((ρ.1.2.1.1.1, (upd ρ.1.2.1.1.2 ((65 : Int32).toNatClampNeg) (vp_nar .boolean 1))), (vp_updL ρ.1.2.1.2 ((65 : Int32).toNatClampNeg) j264_s0)), ((ρ.1.2.2.1.1, ρ.1.2.2.1.2), ρ.1.2.2.2))), ((((ρ.2.1.1.1.1, ρ.2.1.1.1.2), ρ.2.1.1.2), ((ρ.2.1.2.1.1, ρ.2.1.2.1.2), ρ.2.1.2.2)), (((ρ.2.2.1.1.1, ρ.2.2.1.1.2), ρ.2.2.1.2), (ρ.2.2.2.1, ρ.2.2.2.2))))
def f_R_apply (ρ : RSt) (a0 : Int32) (a1 : Int64) : Option (RSt) :=
  if a0 = 0 then
    some ((((((vp_updL ρ.1.1.1.1.1 ((65 : Int32).toNatClampNeg) ((ρ.1.1.1.1.1 ((65 : Int32).toNatClampNeg)) + a1)), ρ.1.1.1.1.2), ρ.1.1.1.2), ((ρ.1.1.2.1.1, ρ.1.1.2.1.2), ρ.1.1.2.2)), (((ρ.1.2.1.1.1, ρ.1.2.1.1.2), ρ.1.2.1.2), ((ρ.1.2.2.1.1, ρ.1.2.2.1.2), ρ.1.2.2.2))), ((((ρ.2.1.1.1.1, ρ.2.1.1.1.2), ρ.2.1.1.2), ((ρ.2.1.2.1.1, ρ.2.1.2.1.2), ρ.2.1.2.2)), (((ρ.2.2.1.1.1, ρ.2.2.1.1.2), ρ.2.2.1.2), (ρ.2.2.2.1, ρ.2.2.2.2))))
  else
    if a0 = 1 then
      some (((((ρ.1.1.1.1.1, (upd ρ.1.1.1.1.2 ((65 : Int32).toNatClampNeg) a1.toInt32)), (upd ρ.1.1.1.2 ((65 : Int32).toNatClampNeg) (ρ.1.2.2.2 + 1))), ((ρ.1.1.2.1.1, ρ.1.1.2.1.2), ρ.1.1.2.2)), (((ρ.1.2.1.1.1, ρ.1.2.1.1.2), ρ.1.2.1.2), ((ρ.1.2.2.1.1, ρ.1.2.2.1.2), ρ.1.2.2.2))), ((((ρ.2.1.1.1.1, ρ.2.1.1.1.2), ρ.2.1.1.2), ((ρ.2.1.2.1.1, ρ.2.1.2.1.2), ρ.2.1.2.2)), (((ρ.2.2.1.1.1, ρ.2.2.1.1.2), ρ.2.2.1.2), (ρ.2.2.2.1, ρ.2.2.2.2))))
    else
      if a0 = 2 then
        some (((((ρ.1.1.1.1.1, ρ.1.1.1.1.2), ρ.1.1.1.2), (((upd ρ.1.1.2.1.1 ((65 : Int32).toNatClampNeg) a1.toInt32), ρ.1.1.2.1.2), ρ.1.1.2.2)), (((ρ.1.2.1.1.1, ρ.1.2.1.1.2), ρ.1.2.1.2), ((ρ.1.2.2.1.1, ρ.1.2.2.1.2), ρ.1.2.2.2))), ((((ρ.2.1.1.1.1, ρ.2.1.1.1.2), ρ.2.1.1.2), ((ρ.2.1.2.1.1, ρ.2.1.2.1.2), ρ.2.1.2.2)), (((ρ.2.2.1.1.1, ρ.2.2.1.1.2), ρ.2.2.1.2), (ρ.2.2.2.1, ρ.2.2.2.2))))
      else
        if a0 = 3 then
          some (((((ρ.1.1.1.1.1, ρ.1.1.1.1.2), ρ.1.1.1.2), ((ρ.1.1.2.1.1, (vp_updL ρ.1.1.2.1.2 ((65 : Int32).toNatClampNeg) ((ρ.1.1.2.1.2 ((65 : Int32).toNatClampNeg)) ^^^ (zs_l 1 a1.toInt32)))), ρ.1.1.2.2)), (((ρ.1.2.1.1.1, ρ.1.2.1.1.2), ρ.1.2.1.2), ((ρ.1.2.2.1.1, ρ.1.2.2.1.2), ρ.1.2.2.2))), ((((ρ.2.1.1.1.1, ρ.2.1.1.1.2), ρ.2.1.1.2), ((ρ.2.1.2.1.1, ρ.2.1.2.1.2), ρ.2.1.2.2)), (((ρ.2.2.1.1.1, ρ.2.2.1.1.2), ρ.2.2.1.2), (ρ.2.2.2.1, ρ.2.2.2.2))))
        else
          if a0 = 4 then
            some (((((ρ.1.1.1.1.1, ρ.1.1.1.1.2), ρ.1.1.1.2), ((ρ.1.1.2.1.1, (vp_updL ρ.1.1.2.1.2 ((65 : Int32).toNatClampNeg) ((ρ.1.1.2.1.2 ((65 : Int32).toNatClampNeg)) ^^^ (zs_l 1 a1.toInt32)))), ρ.1.1.2.2)), (((ρ.1.2.1.1.1, ρ.1.2.1.1.2), ρ.1.2.1.2), ((ρ.1.2.2.1.1, ρ.1.2.2.1.2), ρ.1.2.2.2))), ((((ρ.2.1.1.1.1, ρ.2.1.1.1.2), ρ.2.1.1.2), ((ρ.2.1.2.1.1, ρ.2.1.2.1.2), ρ.2.1.2.2)), (((ρ.2.2.1.1.1, ρ.2.2.1.1.2), ρ.2.2.1.2), (ρ.2.2.2.1, ρ.2.2.2.2))))
          else
            if a0 = 5 then
              if zin ((8 * 65) + (ρ.1.1.2.2 ((65 : Int32).toNatClampNeg))) 536 then
                some (((((ρ.1.1.1.1.1, ρ.1.1.1.1.2), ρ.1.1.1.2), ((ρ.1.1.2.1.1, ρ.1.1.2.1.2), (upd ρ.1.1.2.2 ((65 : Int32).toNatClampNeg) ((ρ.1.1.2.2 ((65 : Int32).toNatClampNeg)) + 1)))), ((((upd ρ.1.2.1.1.1 ((8 * 65) + (ρ.1.1.2.2 ((65 : Int32).toNatClampNeg))).toNatClampNeg a1.toInt32), ρ.1.2.1.1.2), ρ.1.2.1.2), ((ρ.1.2.2.1.1, ρ.1.2.2.1.2), ρ.1.2.2.2))), ((((ρ.2.1.1.1.1, ρ.2.1.1.1.2), ρ.2.1.1.2), ((ρ.2.1.2.1.1, ρ.2.1.2.1.2), ρ.2.1.2.2)), (((ρ.2.2.1.1.1, ρ.2.2.1.1.2), ρ.2.2.1.2), (ρ.2.2.2.1, ρ.2.2.2.2))))
              else
                none
            else
              if a0 = 6 then
                Option.bind (L_R_apply_186 zfuel 0 (((((ρ.1.1.1.1.1, ρ.1.1.1.1.2), ρ.1.1.1.2), ((ρ.1.1.2.1.1, ρ.1.1.2.1.2), (upd ρ.1.1.2.2 ((65 : Int32).toNatClampNeg) ((ρ.1.1.2.2 ((65 : Int32).toNatClampNeg)) - 1)))), (((ρ.1.2.1.1.1, ρ.1.2.1.1.2), ρ.1.2.1.2), ((ρ.1.2.2.1.1, ρ.1.2.2.1.2), ρ.1.2.2.2))), ((((ρ.2.1.1.1.1, ρ.2.1.1.1.2), ρ.2.1.1.2), ((ρ.2.1.2.1.1, ρ.2.1.2.1.2), ρ.2.1.2.2)), (((ρ.2.2.1.1.1, ρ.2.2.1.1.2), ρ.2.2.1.2), (ρ.2.2.2.1, ρ.2.2.2.2))))) (fun w186 =>
                  some w186.2)
              else
                if a0 = 7 then
                  if (ρ.1.2.1.1.2 ((65 : Int32).toNatClampNeg)) = 0 then
                    J_R_apply_264 ρ a1
                  else
                    J_R_apply_264 ρ ((ρ.1.2.1.2 ((65 : Int32).toNatClampNeg)) + a1)
                else
                  if a0 = 8 then
                    some (((((ρ.1.1.1.1.1, ρ.1.1.1.1.2), ρ.1.1.1.2), ((ρ.1.1.2.1.1, ρ.1.1.2.1.2), ρ.1.1.2.2)), (((ρ.1.2.1.1.1, (upd ρ.1.2.1.1.2 ((65 : Int32).toNatClampNeg) (vp_nar .boolean 0))), (vp_updL ρ.1.2.1.2 ((65 : Int32).toNatClampNeg) 0)), ((ρ.1.2.2.1.1, ρ.1.2.2.1.2), ρ.1.2.2.2))), ((((ρ.2.1.1.1.1, ρ.2.1.1.1.2), ρ.2.1.1.2), ((ρ.2.1.2.1.1, ρ.2.1.2.1.2), ρ.2.1.2.2)), (((ρ.2.2.1.1.1, ρ.2.2.1.1.2), ρ.2.2.1.2), (ρ.2.2.2.1, ρ.2.2.2.2))))
                  else
                    if a0 = 9 then
                      some (((((ρ.1.1.1.1.1, ρ.1.1.1.1.2), ρ.1.1.1.2), ((ρ.1.1.2.1.1, ρ.1.1.2.1.2), ρ.1.1.2.2)), (((ρ.1.2.1.1.1, ρ.1.2.1.1.2), ρ.1.2.1.2), (((vp_updL ρ.1.2.2.1.1 ((65 : Int32).toNatClampNeg) ((ρ.1.2.2.1.1 ((65 : Int32).toNatClampNeg)) + a1)), ρ.1.2.2.1.2), ρ.1.2.2.2))), ((((ρ.2.1.1.1.1, ρ.2.1.1.1.2), ρ.2.1.1.2), ((ρ.2.1.2.1.1, ρ.2.1.2.1.2), ρ.2.1.2.2)), (((ρ.2.2.1.1.1, ρ.2.2.1.1.2), ρ.2.2.1.2), (ρ.2.2.2.1, ρ.2.2.2.2))))
                    else
                      some (((((ρ.1.1.1.1.1, ρ.1.1.1.1.2), ρ.1.1.1.2), ((ρ.1.1.2.1.1, ρ.1.1.2.1.2), ρ.1.1.2.2)), (((ρ.1.2.1.1.1, ρ.1.2.1.1.2), ρ.1.2.1.2), ((ρ.1.2.2.1.1, (upd ρ.1.2.2.1.2 ((65 : Int32).toNatClampNeg) a1.toInt32)), ρ.1.2.2.2))), ((((ρ.2.1.1.1.1, ρ.2.1.1.1.2), ρ.2.1.1.2), ((ρ.2.1.2.1.1, ρ.2.1.2.1.2), ρ.2.1.2.2)), (((ρ.2.2.1.1.1, ρ.2.2.1.1.2), ρ.2.2.1.2), (ρ.2.2.2.1, ρ.2.2.2.2))))
set_option maxHeartbeats 4000000 in
set_option maxRecDepth 100000 in
theorem c_R_apply (l : Launch) (D : va_G) (tys : List (ClassId × FieldType)) (sz : Nat) (q : Nat → Nat) (cR : Nat → ClassId) (ρ : RSt) (a0 : Int32) (a1 : Int64) (v : RSt) (hres : f_R_apply ρ a0 a1 = some v) : Met l y_R_apply w_R_apply ({ frames := 0, cells := 0, slots := 0, locals := 0 } : Room) (va_Pc ([.ref (q 0), .int a0, .long a1]) (zrw D (zRt cR) sz (zR q cR ρ))) (qd_R_apply D tys q cR ρ a0 a1 v (va_A (zR q cR ρ) sz)) 0 0 (va_A (zR q cR ρ) sz) := by
  refine Met.ofW (cc := b_R_apply) (maxL := 6) (ret := none) (by decide) rfl ?_
  intro p e s m args below meth c s₁ B hml hv
  obtain ⟨rfl, hsz, hP, hK, hD0, hN⟩ := hv
  have hx := B.exec
  have hb := B.bytes
  have hr := B.returns
  have hts : ∀ w ∈ zt, w.before ([.ref (q 0), .int a0, .long a1].toArray) s = true := fun w h => atoms_spec (ws := w_R_apply) B.pre w (List.mem_cons_of_mem _ h)
  have hown : s.vm.findClass R_R = some m.cls := findClass_of_methodNamed B.named
  have hlocks := B.notSynchronized
  subst hsz
  have hD := hD0.self (sz := s.heap.size)
  generalize hAe : va_A (zR q cR ρ) s.heap.size = A at hD ⊢
  have hA : ∀ q : Nat, s.heap.size ≤ q → A q := fun q h => by rw [← hAe]; exact Or.inr h
  have hS : va_S A s.heap s.heap [] := va_S.rf
  have hP : va_P D vwCl (zR q cR ρ) s.heap := hP
  have hD : va_D A (zR q cR ρ) := hD
  have hl := lv_entry ([.ref (q 0), .int a0, .long a1]) (n := 6) (Nat.le_of_ble_eq_true rfl)
  rw [lg_entry_eq]
  generalize (lg_sl ([.ref (q 0), .int a0, .long a1]) ++ List.replicate (6 - (lg_sl ([.ref (q 0), .int a0, .long a1])).length) Slot.unset).toArray = ls at hl ⊢
  have hl : lv_has ls 6 [(0, .ref (q 0)), (1, .int a0), (2, .long a1)] := hl
  unfold f_R_apply at hres
  refine lv_bipush (v := 65) hx hb d_R_apply_0 (by decide) ?_
  refine lv_istore (lv' := [(4, .int 65), (0, .ref (q 0)), (1, .int a0), (2, .long a1)]) hx hb d_R_apply_2 hl (by decide) rfl (fun ls hl => ?_)
  refine lv_iload_n hx hb d_R_apply_4 rfl (lv_at hl 2 rfl) ?_
  by_cases c_5_0 : a0 = 0
  · have hres := zi_p c_5_0 hres
    refine lv_tableIn (off := 55) (tgt := 60) hx hb d_R_apply_5 (by rw [c_5_0]; decide) (by rw [c_5_0]; decide) (by rw [c_5_0]; decide) (by decide) ?_
    refine lv_aload_n hx hb d_R_apply_60 rfl (lv_at hl 1 rfl) ?_
    refine va_get (D := D) (ci := 4) (v := .ref (q 1)) (C := R_R) (T := T_R) (N := 23) hx hb hts in_R hown hK hP (0) rfl rfl 0 (by decide) (hts _ k_428) (fun _ h9 => h9) rfl d_R_apply_61 ?_
    refine lv_iload hx hb d_R_apply_64 (lv_at hl 0 rfl) ?_
    refine lv_aload_n hx hb d_R_apply_66 rfl (lv_at hl 1 rfl) ?_
    refine va_get (D := D) (ci := 4) (v := .ref (q 1)) (C := R_R) (T := T_R) (N := 23) hx hb hts in_R hown hK hP (0) rfl rfl 0 (by decide) (hts _ k_428) (fun _ h9 => h9) rfl d_R_apply_67 ?_
    refine lv_iload hx hb d_R_apply_70 (lv_at hl 0 rfl) ?_
    refine va_lald hx hb hK hP 1 0 rfl rfl (show zin 65 67 by decide) d_R_apply_72 ?_
    refine lv_lload_n hx hb d_R_apply_73 rfl (lv_at hl 3 rfl) ?_
    refine lv_ladd hx hb d_R_apply_74 ?_
    refine va_last hx hb hK hP hD hS 1 0 rfl rfl (show zin 65 67 by decide) d_R_apply_75 (fun H locs hP hD hS => ?_)
    have hP : va_P D vwCl ([(q 0, .inr (4, [.ref (q 1), .ref (q 2), .ref (q 3), .ref (q 4), .ref (q 5), .ref (q 6), .ref (q 7), .ref (q 8), .ref (q 9), .ref (q 10), .ref (q 11), .int ρ.1.2.2.2, .ref (q 12), .ref (q 13), .ref (q 14), .ref (q 15), .ref (q 16), .ref (q 17), .int ρ.2.2.1.1.1, .ref (q 18), .ref (q 19), .ref (q 20), .ref (q 21)])), (q 1, .inl (cR 1, 67, .inr (.inl (vp_updL ρ.1.1.1.1.1 ((65 : Int32).toNatClampNeg) ((ρ.1.1.1.1.1 ((65 : Int32).toNatClampNeg)) + a1))))), (q 2, .inl (cR 2, 67, .inl ρ.1.1.1.1.2)), (q 3, .inl (cR 3, 67, .inl ρ.1.1.1.2)), (q 4, .inl (cR 4, 67, .inl ρ.1.1.2.1.1)), (q 5, .inl (cR 5, 67, .inr (.inl ρ.1.1.2.1.2))), (q 6, .inl (cR 6, 67, .inl ρ.1.1.2.2)), (q 7, .inl (cR 7, 536, .inl ρ.1.2.1.1.1)), (q 8, .inl (cR 8, 67, .inl ρ.1.2.1.1.2)), (q 9, .inl (cR 9, 67, .inr (.inl ρ.1.2.1.2))), (q 10, .inl (cR 10, 67, .inr (.inl ρ.1.2.2.1.1))), (q 11, .inl (cR 11, 67, .inl ρ.1.2.2.1.2)), (q 12, .inl (cR 12, 60, .inl ρ.2.1.1.1.1)), (q 13, .inl (cR 13, 60, .inl ρ.2.1.1.1.2)), (q 14, .inl (cR 14, 60, .inr (.inl ρ.2.1.1.2))), (q 15, .inl (cR 15, 60, .inr (.inl ρ.2.1.2.1.1))), (q 16, .inl (cR 16, 4, .inl ρ.2.1.2.1.2)), (q 17, .inl (cR 17, 4, .inl ρ.2.1.2.2)), (q 18, .inl (cR 18, 100, .inl ρ.2.2.1.1.2)), (q 19, .inl (cR 19, 5, .inl ρ.2.2.1.2)), (q 20, .inl (cR 20, 5, .inl ρ.2.2.2.1)), (q 21, .inl (cR 21, 5, .inl ρ.2.2.2.2))]) H := hP
    have hD : va_D A ([(q 0, .inr (4, [.ref (q 1), .ref (q 2), .ref (q 3), .ref (q 4), .ref (q 5), .ref (q 6), .ref (q 7), .ref (q 8), .ref (q 9), .ref (q 10), .ref (q 11), .int ρ.1.2.2.2, .ref (q 12), .ref (q 13), .ref (q 14), .ref (q 15), .ref (q 16), .ref (q 17), .int ρ.2.2.1.1.1, .ref (q 18), .ref (q 19), .ref (q 20), .ref (q 21)])), (q 1, .inl (cR 1, 67, .inr (.inl (vp_updL ρ.1.1.1.1.1 ((65 : Int32).toNatClampNeg) ((ρ.1.1.1.1.1 ((65 : Int32).toNatClampNeg)) + a1))))), (q 2, .inl (cR 2, 67, .inl ρ.1.1.1.1.2)), (q 3, .inl (cR 3, 67, .inl ρ.1.1.1.2)), (q 4, .inl (cR 4, 67, .inl ρ.1.1.2.1.1)), (q 5, .inl (cR 5, 67, .inr (.inl ρ.1.1.2.1.2))), (q 6, .inl (cR 6, 67, .inl ρ.1.1.2.2)), (q 7, .inl (cR 7, 536, .inl ρ.1.2.1.1.1)), (q 8, .inl (cR 8, 67, .inl ρ.1.2.1.1.2)), (q 9, .inl (cR 9, 67, .inr (.inl ρ.1.2.1.2))), (q 10, .inl (cR 10, 67, .inr (.inl ρ.1.2.2.1.1))), (q 11, .inl (cR 11, 67, .inl ρ.1.2.2.1.2)), (q 12, .inl (cR 12, 60, .inl ρ.2.1.1.1.1)), (q 13, .inl (cR 13, 60, .inl ρ.2.1.1.1.2)), (q 14, .inl (cR 14, 60, .inr (.inl ρ.2.1.1.2))), (q 15, .inl (cR 15, 60, .inr (.inl ρ.2.1.2.1.1))), (q 16, .inl (cR 16, 4, .inl ρ.2.1.2.1.2)), (q 17, .inl (cR 17, 4, .inl ρ.2.1.2.2)), (q 18, .inl (cR 18, 100, .inl ρ.2.2.1.1.2)), (q 19, .inl (cR 19, 5, .inl ρ.2.2.1.2)), (q 20, .inl (cR 20, 5, .inl ρ.2.2.2.1)), (q 21, .inl (cR 21, 5, .inl ρ.2.2.2.2))]) := hD
    refine lv_goto (tgt := 323) hx hb d_R_apply_76 (by decide) ?_
    obtain rfl := Option.some.inj hres
    exact W.vret hx hb hr (fun t ht hW => ⟨⟨(), rfl, trivial, by rw [ht]; exact hP, va_K.moved hW.alike hK, hD⟩, hS.F ht⟩) hS.2.2 d_R_apply_323
  · have hres := zi_n c_5_0 hres
    by_cases c_5_1 : a0 = 1
    · have hres := zi_p c_5_1 hres
      refine lv_tableIn (off := 74) (tgt := 79) hx hb d_R_apply_5 (by rw [c_5_1]; decide) (by rw [c_5_1]; decide) (by rw [c_5_1]; decide) (by decide) ?_
      refine lv_aload_n hx hb d_R_apply_79 rfl (lv_at hl 1 rfl) ?_
      refine va_get (D := D) (ci := 4) (v := .ref (q 2)) (C := R_R) (T := T_R) (N := 23) hx hb hts in_R hown hK hP (0) rfl rfl 1 (by decide) (hts _ k_429) (fun _ h9 => h9) rfl d_R_apply_80 ?_
      refine lv_iload hx hb d_R_apply_83 (lv_at hl 0 rfl) ?_
      refine lv_lload_n hx hb d_R_apply_85 rfl (lv_at hl 3 rfl) ?_
      refine lv_l2i (v := a1.toInt32) hx hb d_R_apply_86 rfl ?_
      refine va_iast hx hb hK hP hD hS 2 1 rfl rfl (show zin 65 67 by decide) d_R_apply_87 (fun H locs hP hD hS => ?_)
      have hP : va_P D vwCl ([(q 0, .inr (4, [.ref (q 1), .ref (q 2), .ref (q 3), .ref (q 4), .ref (q 5), .ref (q 6), .ref (q 7), .ref (q 8), .ref (q 9), .ref (q 10), .ref (q 11), .int ρ.1.2.2.2, .ref (q 12), .ref (q 13), .ref (q 14), .ref (q 15), .ref (q 16), .ref (q 17), .int ρ.2.2.1.1.1, .ref (q 18), .ref (q 19), .ref (q 20), .ref (q 21)])), (q 1, .inl (cR 1, 67, .inr (.inl ρ.1.1.1.1.1))), (q 2, .inl (cR 2, 67, .inl (upd ρ.1.1.1.1.2 ((65 : Int32).toNatClampNeg) a1.toInt32))), (q 3, .inl (cR 3, 67, .inl ρ.1.1.1.2)), (q 4, .inl (cR 4, 67, .inl ρ.1.1.2.1.1)), (q 5, .inl (cR 5, 67, .inr (.inl ρ.1.1.2.1.2))), (q 6, .inl (cR 6, 67, .inl ρ.1.1.2.2)), (q 7, .inl (cR 7, 536, .inl ρ.1.2.1.1.1)), (q 8, .inl (cR 8, 67, .inl ρ.1.2.1.1.2)), (q 9, .inl (cR 9, 67, .inr (.inl ρ.1.2.1.2))), (q 10, .inl (cR 10, 67, .inr (.inl ρ.1.2.2.1.1))), (q 11, .inl (cR 11, 67, .inl ρ.1.2.2.1.2)), (q 12, .inl (cR 12, 60, .inl ρ.2.1.1.1.1)), (q 13, .inl (cR 13, 60, .inl ρ.2.1.1.1.2)), (q 14, .inl (cR 14, 60, .inr (.inl ρ.2.1.1.2))), (q 15, .inl (cR 15, 60, .inr (.inl ρ.2.1.2.1.1))), (q 16, .inl (cR 16, 4, .inl ρ.2.1.2.1.2)), (q 17, .inl (cR 17, 4, .inl ρ.2.1.2.2)), (q 18, .inl (cR 18, 100, .inl ρ.2.2.1.1.2)), (q 19, .inl (cR 19, 5, .inl ρ.2.2.1.2)), (q 20, .inl (cR 20, 5, .inl ρ.2.2.2.1)), (q 21, .inl (cR 21, 5, .inl ρ.2.2.2.2))]) H := hP
      have hD : va_D A ([(q 0, .inr (4, [.ref (q 1), .ref (q 2), .ref (q 3), .ref (q 4), .ref (q 5), .ref (q 6), .ref (q 7), .ref (q 8), .ref (q 9), .ref (q 10), .ref (q 11), .int ρ.1.2.2.2, .ref (q 12), .ref (q 13), .ref (q 14), .ref (q 15), .ref (q 16), .ref (q 17), .int ρ.2.2.1.1.1, .ref (q 18), .ref (q 19), .ref (q 20), .ref (q 21)])), (q 1, .inl (cR 1, 67, .inr (.inl ρ.1.1.1.1.1))), (q 2, .inl (cR 2, 67, .inl (upd ρ.1.1.1.1.2 ((65 : Int32).toNatClampNeg) a1.toInt32))), (q 3, .inl (cR 3, 67, .inl ρ.1.1.1.2)), (q 4, .inl (cR 4, 67, .inl ρ.1.1.2.1.1)), (q 5, .inl (cR 5, 67, .inr (.inl ρ.1.1.2.1.2))), (q 6, .inl (cR 6, 67, .inl ρ.1.1.2.2)), (q 7, .inl (cR 7, 536, .inl ρ.1.2.1.1.1)), (q 8, .inl (cR 8, 67, .inl ρ.1.2.1.1.2)), (q 9, .inl (cR 9, 67, .inr (.inl ρ.1.2.1.2))), (q 10, .inl (cR 10, 67, .inr (.inl ρ.1.2.2.1.1))), (q 11, .inl (cR 11, 67, .inl ρ.1.2.2.1.2)), (q 12, .inl (cR 12, 60, .inl ρ.2.1.1.1.1)), (q 13, .inl (cR 13, 60, .inl ρ.2.1.1.1.2)), (q 14, .inl (cR 14, 60, .inr (.inl ρ.2.1.1.2))), (q 15, .inl (cR 15, 60, .inr (.inl ρ.2.1.2.1.1))), (q 16, .inl (cR 16, 4, .inl ρ.2.1.2.1.2)), (q 17, .inl (cR 17, 4, .inl ρ.2.1.2.2)), (q 18, .inl (cR 18, 100, .inl ρ.2.2.1.1.2)), (q 19, .inl (cR 19, 5, .inl ρ.2.2.1.2)), (q 20, .inl (cR 20, 5, .inl ρ.2.2.2.1)), (q 21, .inl (cR 21, 5, .inl ρ.2.2.2.2))]) := hD
      refine lv_aload_n hx hb d_R_apply_88 rfl (lv_at hl 1 rfl) ?_
      refine va_get (D := D) (ci := 4) (v := .ref (q 3)) (C := R_R) (T := T_R) (N := 23) hx hb hts in_R hown hK hP (0) rfl rfl 2 (by decide) (hts _ k_430) (fun _ h9 => h9) rfl d_R_apply_89 ?_
      refine lv_iload hx hb d_R_apply_92 (lv_at hl 0 rfl) ?_
      refine lv_aload_n hx hb d_R_apply_94 rfl (lv_at hl 1 rfl) ?_
      refine va_get (D := D) (ci := 4) (v := .int ρ.1.2.2.2) (C := R_R) (T := T_R) (N := 23) hx hb hts in_R hown hK hP (0) rfl rfl 11 (by decide) (hts _ k_439) (fun _ h9 => h9) rfl d_R_apply_95 ?_
      refine lv_iconst (v := 1) hx hb d_R_apply_98 (by decide) ?_
      refine lv_iadd hx hb d_R_apply_99 ?_
      refine va_iast hx hb hK hP hD hS 3 2 rfl rfl (show zin 65 67 by decide) d_R_apply_100 (fun H locs hP hD hS => ?_)
      have hP : va_P D vwCl ([(q 0, .inr (4, [.ref (q 1), .ref (q 2), .ref (q 3), .ref (q 4), .ref (q 5), .ref (q 6), .ref (q 7), .ref (q 8), .ref (q 9), .ref (q 10), .ref (q 11), .int ρ.1.2.2.2, .ref (q 12), .ref (q 13), .ref (q 14), .ref (q 15), .ref (q 16), .ref (q 17), .int ρ.2.2.1.1.1, .ref (q 18), .ref (q 19), .ref (q 20), .ref (q 21)])), (q 1, .inl (cR 1, 67, .inr (.inl ρ.1.1.1.1.1))), (q 2, .inl (cR 2, 67, .inl (upd ρ.1.1.1.1.2 ((65 : Int32).toNatClampNeg) a1.toInt32))), (q 3, .inl (cR 3, 67, .inl (upd ρ.1.1.1.2 ((65 : Int32).toNatClampNeg) (ρ.1.2.2.2 + 1)))), (q 4, .inl (cR 4, 67, .inl ρ.1.1.2.1.1)), (q 5, .inl (cR 5, 67, .inr (.inl ρ.1.1.2.1.2))), (q 6, .inl (cR 6, 67, .inl ρ.1.1.2.2)), (q 7, .inl (cR 7, 536, .inl ρ.1.2.1.1.1)), (q 8, .inl (cR 8, 67, .inl ρ.1.2.1.1.2)), (q 9, .inl (cR 9, 67, .inr (.inl ρ.1.2.1.2))), (q 10, .inl (cR 10, 67, .inr (.inl ρ.1.2.2.1.1))), (q 11, .inl (cR 11, 67, .inl ρ.1.2.2.1.2)), (q 12, .inl (cR 12, 60, .inl ρ.2.1.1.1.1)), (q 13, .inl (cR 13, 60, .inl ρ.2.1.1.1.2)), (q 14, .inl (cR 14, 60, .inr (.inl ρ.2.1.1.2))), (q 15, .inl (cR 15, 60, .inr (.inl ρ.2.1.2.1.1))), (q 16, .inl (cR 16, 4, .inl ρ.2.1.2.1.2)), (q 17, .inl (cR 17, 4, .inl ρ.2.1.2.2)), (q 18, .inl (cR 18, 100, .inl ρ.2.2.1.1.2)), (q 19, .inl (cR 19, 5, .inl ρ.2.2.1.2)), (q 20, .inl (cR 20, 5, .inl ρ.2.2.2.1)), (q 21, .inl (cR 21, 5, .inl ρ.2.2.2.2))]) H := hP
      have hD : va_D A ([(q 0, .inr (4, [.ref (q 1), .ref (q 2), .ref (q 3), .ref (q 4), .ref (q 5), .ref (q 6), .ref (q 7), .ref (q 8), .ref (q 9), .ref (q 10), .ref (q 11), .int ρ.1.2.2.2, .ref (q 12), .ref (q 13), .ref (q 14), .ref (q 15), .ref (q 16), .ref (q 17), .int ρ.2.2.1.1.1, .ref (q 18), .ref (q 19), .ref (q 20), .ref (q 21)])), (q 1, .inl (cR 1, 67, .inr (.inl ρ.1.1.1.1.1))), (q 2, .inl (cR 2, 67, .inl (upd ρ.1.1.1.1.2 ((65 : Int32).toNatClampNeg) a1.toInt32))), (q 3, .inl (cR 3, 67, .inl (upd ρ.1.1.1.2 ((65 : Int32).toNatClampNeg) (ρ.1.2.2.2 + 1)))), (q 4, .inl (cR 4, 67, .inl ρ.1.1.2.1.1)), (q 5, .inl (cR 5, 67, .inr (.inl ρ.1.1.2.1.2))), (q 6, .inl (cR 6, 67, .inl ρ.1.1.2.2)), (q 7, .inl (cR 7, 536, .inl ρ.1.2.1.1.1)), (q 8, .inl (cR 8, 67, .inl ρ.1.2.1.1.2)), (q 9, .inl (cR 9, 67, .inr (.inl ρ.1.2.1.2))), (q 10, .inl (cR 10, 67, .inr (.inl ρ.1.2.2.1.1))), (q 11, .inl (cR 11, 67, .inl ρ.1.2.2.1.2)), (q 12, .inl (cR 12, 60, .inl ρ.2.1.1.1.1)), (q 13, .inl (cR 13, 60, .inl ρ.2.1.1.1.2)), (q 14, .inl (cR 14, 60, .inr (.inl ρ.2.1.1.2))), (q 15, .inl (cR 15, 60, .inr (.inl ρ.2.1.2.1.1))), (q 16, .inl (cR 16, 4, .inl ρ.2.1.2.1.2)), (q 17, .inl (cR 17, 4, .inl ρ.2.1.2.2)), (q 18, .inl (cR 18, 100, .inl ρ.2.2.1.1.2)), (q 19, .inl (cR 19, 5, .inl ρ.2.2.1.2)), (q 20, .inl (cR 20, 5, .inl ρ.2.2.2.1)), (q 21, .inl (cR 21, 5, .inl ρ.2.2.2.2))]) := hD
      refine lv_goto (tgt := 323) hx hb d_R_apply_101 (by decide) ?_
      obtain rfl := Option.some.inj hres
      exact W.vret hx hb hr (fun t ht hW => ⟨⟨(), rfl, trivial, by rw [ht]; exact hP, va_K.moved hW.alike hK, hD⟩, hS.F ht⟩) hS.2.2 d_R_apply_323
    · have hres := zi_n c_5_1 hres
      by_cases c_5_2 : a0 = 2
      · have hres := zi_p c_5_2 hres
        refine lv_tableIn (off := 99) (tgt := 104) hx hb d_R_apply_5 (by rw [c_5_2]; decide) (by rw [c_5_2]; decide) (by rw [c_5_2]; decide) (by decide) ?_
        refine lv_aload_n hx hb d_R_apply_104 rfl (lv_at hl 1 rfl) ?_
        refine va_get (D := D) (ci := 4) (v := .ref (q 4)) (C := R_R) (T := T_R) (N := 23) hx hb hts in_R hown hK hP (0) rfl rfl 3 (by decide) (hts _ k_431) (fun _ h9 => h9) rfl d_R_apply_105 ?_
        refine lv_iload hx hb d_R_apply_108 (lv_at hl 0 rfl) ?_
        refine lv_lload_n hx hb d_R_apply_110 rfl (lv_at hl 3 rfl) ?_
        refine lv_l2i (v := a1.toInt32) hx hb d_R_apply_111 rfl ?_
        refine va_iast hx hb hK hP hD hS 4 3 rfl rfl (show zin 65 67 by decide) d_R_apply_112 (fun H locs hP hD hS => ?_)
        have hP : va_P D vwCl ([(q 0, .inr (4, [.ref (q 1), .ref (q 2), .ref (q 3), .ref (q 4), .ref (q 5), .ref (q 6), .ref (q 7), .ref (q 8), .ref (q 9), .ref (q 10), .ref (q 11), .int ρ.1.2.2.2, .ref (q 12), .ref (q 13), .ref (q 14), .ref (q 15), .ref (q 16), .ref (q 17), .int ρ.2.2.1.1.1, .ref (q 18), .ref (q 19), .ref (q 20), .ref (q 21)])), (q 1, .inl (cR 1, 67, .inr (.inl ρ.1.1.1.1.1))), (q 2, .inl (cR 2, 67, .inl ρ.1.1.1.1.2)), (q 3, .inl (cR 3, 67, .inl ρ.1.1.1.2)), (q 4, .inl (cR 4, 67, .inl (upd ρ.1.1.2.1.1 ((65 : Int32).toNatClampNeg) a1.toInt32))), (q 5, .inl (cR 5, 67, .inr (.inl ρ.1.1.2.1.2))), (q 6, .inl (cR 6, 67, .inl ρ.1.1.2.2)), (q 7, .inl (cR 7, 536, .inl ρ.1.2.1.1.1)), (q 8, .inl (cR 8, 67, .inl ρ.1.2.1.1.2)), (q 9, .inl (cR 9, 67, .inr (.inl ρ.1.2.1.2))), (q 10, .inl (cR 10, 67, .inr (.inl ρ.1.2.2.1.1))), (q 11, .inl (cR 11, 67, .inl ρ.1.2.2.1.2)), (q 12, .inl (cR 12, 60, .inl ρ.2.1.1.1.1)), (q 13, .inl (cR 13, 60, .inl ρ.2.1.1.1.2)), (q 14, .inl (cR 14, 60, .inr (.inl ρ.2.1.1.2))), (q 15, .inl (cR 15, 60, .inr (.inl ρ.2.1.2.1.1))), (q 16, .inl (cR 16, 4, .inl ρ.2.1.2.1.2)), (q 17, .inl (cR 17, 4, .inl ρ.2.1.2.2)), (q 18, .inl (cR 18, 100, .inl ρ.2.2.1.1.2)), (q 19, .inl (cR 19, 5, .inl ρ.2.2.1.2)), (q 20, .inl (cR 20, 5, .inl ρ.2.2.2.1)), (q 21, .inl (cR 21, 5, .inl ρ.2.2.2.2))]) H := hP
        have hD : va_D A ([(q 0, .inr (4, [.ref (q 1), .ref (q 2), .ref (q 3), .ref (q 4), .ref (q 5), .ref (q 6), .ref (q 7), .ref (q 8), .ref (q 9), .ref (q 10), .ref (q 11), .int ρ.1.2.2.2, .ref (q 12), .ref (q 13), .ref (q 14), .ref (q 15), .ref (q 16), .ref (q 17), .int ρ.2.2.1.1.1, .ref (q 18), .ref (q 19), .ref (q 20), .ref (q 21)])), (q 1, .inl (cR 1, 67, .inr (.inl ρ.1.1.1.1.1))), (q 2, .inl (cR 2, 67, .inl ρ.1.1.1.1.2)), (q 3, .inl (cR 3, 67, .inl ρ.1.1.1.2)), (q 4, .inl (cR 4, 67, .inl (upd ρ.1.1.2.1.1 ((65 : Int32).toNatClampNeg) a1.toInt32))), (q 5, .inl (cR 5, 67, .inr (.inl ρ.1.1.2.1.2))), (q 6, .inl (cR 6, 67, .inl ρ.1.1.2.2)), (q 7, .inl (cR 7, 536, .inl ρ.1.2.1.1.1)), (q 8, .inl (cR 8, 67, .inl ρ.1.2.1.1.2)), (q 9, .inl (cR 9, 67, .inr (.inl ρ.1.2.1.2))), (q 10, .inl (cR 10, 67, .inr (.inl ρ.1.2.2.1.1))), (q 11, .inl (cR 11, 67, .inl ρ.1.2.2.1.2)), (q 12, .inl (cR 12, 60, .inl ρ.2.1.1.1.1)), (q 13, .inl (cR 13, 60, .inl ρ.2.1.1.1.2)), (q 14, .inl (cR 14, 60, .inr (.inl ρ.2.1.1.2))), (q 15, .inl (cR 15, 60, .inr (.inl ρ.2.1.2.1.1))), (q 16, .inl (cR 16, 4, .inl ρ.2.1.2.1.2)), (q 17, .inl (cR 17, 4, .inl ρ.2.1.2.2)), (q 18, .inl (cR 18, 100, .inl ρ.2.2.1.1.2)), (q 19, .inl (cR 19, 5, .inl ρ.2.2.1.2)), (q 20, .inl (cR 20, 5, .inl ρ.2.2.2.1)), (q 21, .inl (cR 21, 5, .inl ρ.2.2.2.2))]) := hD
        refine lv_goto (tgt := 323) hx hb d_R_apply_113 (by decide) ?_
        obtain rfl := Option.some.inj hres
        exact W.vret hx hb hr (fun t ht hW => ⟨⟨(), rfl, trivial, by rw [ht]; exact hP, va_K.moved hW.alike hK, hD⟩, hS.F ht⟩) hS.2.2 d_R_apply_323
      · have hres := zi_n c_5_2 hres
        by_cases c_5_3 : a0 = 3
        · have hres := zi_p c_5_3 hres
          refine lv_tableIn (off := 111) (tgt := 116) hx hb d_R_apply_5 (by rw [c_5_3]; decide) (by rw [c_5_3]; decide) (by rw [c_5_3]; decide) (by decide) ?_
          refine lv_aload_n hx hb d_R_apply_116 rfl (lv_at hl 1 rfl) ?_
          refine va_get (D := D) (ci := 4) (v := .ref (q 5)) (C := R_R) (T := T_R) (N := 23) hx hb hts in_R hown hK hP (0) rfl rfl 4 (by decide) (hts _ k_432) (fun _ h9 => h9) rfl d_R_apply_117 ?_
          refine lv_iload hx hb d_R_apply_120 (lv_at hl 0 rfl) ?_
          refine lv_aload_n hx hb d_R_apply_122 rfl (lv_at hl 1 rfl) ?_
          refine va_get (D := D) (ci := 4) (v := .ref (q 5)) (C := R_R) (T := T_R) (N := 23) hx hb hts in_R hown hK hP (0) rfl rfl 4 (by decide) (hts _ k_432) (fun _ h9 => h9) rfl d_R_apply_123 ?_
          refine lv_iload hx hb d_R_apply_126 (lv_at hl 0 rfl) ?_
          refine va_lald hx hb hK hP 5 4 rfl rfl (show zin 65 67 by decide) d_R_apply_128 ?_
          refine lv_lconst (v := 1) hx hb d_R_apply_129 (by decide) ?_
          refine lv_lload_n hx hb d_R_apply_130 rfl (lv_at hl 3 rfl) ?_
          refine lv_l2i (v := a1.toInt32) hx hb d_R_apply_131 rfl ?_
          refine lv_lshl (v := (zs_l 1 a1.toInt32)) hx hb d_R_apply_132 rfl ?_
          refine lv_lxor hx hb d_R_apply_133 ?_
          refine va_last hx hb hK hP hD hS 5 4 rfl rfl (show zin 65 67 by decide) d_R_apply_134 (fun H locs hP hD hS => ?_)
          have hP : va_P D vwCl ([(q 0, .inr (4, [.ref (q 1), .ref (q 2), .ref (q 3), .ref (q 4), .ref (q 5), .ref (q 6), .ref (q 7), .ref (q 8), .ref (q 9), .ref (q 10), .ref (q 11), .int ρ.1.2.2.2, .ref (q 12), .ref (q 13), .ref (q 14), .ref (q 15), .ref (q 16), .ref (q 17), .int ρ.2.2.1.1.1, .ref (q 18), .ref (q 19), .ref (q 20), .ref (q 21)])), (q 1, .inl (cR 1, 67, .inr (.inl ρ.1.1.1.1.1))), (q 2, .inl (cR 2, 67, .inl ρ.1.1.1.1.2)), (q 3, .inl (cR 3, 67, .inl ρ.1.1.1.2)), (q 4, .inl (cR 4, 67, .inl ρ.1.1.2.1.1)), (q 5, .inl (cR 5, 67, .inr (.inl (vp_updL ρ.1.1.2.1.2 ((65 : Int32).toNatClampNeg) ((ρ.1.1.2.1.2 ((65 : Int32).toNatClampNeg)) ^^^ (zs_l 1 a1.toInt32)))))), (q 6, .inl (cR 6, 67, .inl ρ.1.1.2.2)), (q 7, .inl (cR 7, 536, .inl ρ.1.2.1.1.1)), (q 8, .inl (cR 8, 67, .inl ρ.1.2.1.1.2)), (q 9, .inl (cR 9, 67, .inr (.inl ρ.1.2.1.2))), (q 10, .inl (cR 10, 67, .inr (.inl ρ.1.2.2.1.1))), (q 11, .inl (cR 11, 67, .inl ρ.1.2.2.1.2)), (q 12, .inl (cR 12, 60, .inl ρ.2.1.1.1.1)), (q 13, .inl (cR 13, 60, .inl ρ.2.1.1.1.2)), (q 14, .inl (cR 14, 60, .inr (.inl ρ.2.1.1.2))), (q 15, .inl (cR 15, 60, .inr (.inl ρ.2.1.2.1.1))), (q 16, .inl (cR 16, 4, .inl ρ.2.1.2.1.2)), (q 17, .inl (cR 17, 4, .inl ρ.2.1.2.2)), (q 18, .inl (cR 18, 100, .inl ρ.2.2.1.1.2)), (q 19, .inl (cR 19, 5, .inl ρ.2.2.1.2)), (q 20, .inl (cR 20, 5, .inl ρ.2.2.2.1)), (q 21, .inl (cR 21, 5, .inl ρ.2.2.2.2))]) H := hP
          have hD : va_D A ([(q 0, .inr (4, [.ref (q 1), .ref (q 2), .ref (q 3), .ref (q 4), .ref (q 5), .ref (q 6), .ref (q 7), .ref (q 8), .ref (q 9), .ref (q 10), .ref (q 11), .int ρ.1.2.2.2, .ref (q 12), .ref (q 13), .ref (q 14), .ref (q 15), .ref (q 16), .ref (q 17), .int ρ.2.2.1.1.1, .ref (q 18), .ref (q 19), .ref (q 20), .ref (q 21)])), (q 1, .inl (cR 1, 67, .inr (.inl ρ.1.1.1.1.1))), (q 2, .inl (cR 2, 67, .inl ρ.1.1.1.1.2)), (q 3, .inl (cR 3, 67, .inl ρ.1.1.1.2)), (q 4, .inl (cR 4, 67, .inl ρ.1.1.2.1.1)), (q 5, .inl (cR 5, 67, .inr (.inl (vp_updL ρ.1.1.2.1.2 ((65 : Int32).toNatClampNeg) ((ρ.1.1.2.1.2 ((65 : Int32).toNatClampNeg)) ^^^ (zs_l 1 a1.toInt32)))))), (q 6, .inl (cR 6, 67, .inl ρ.1.1.2.2)), (q 7, .inl (cR 7, 536, .inl ρ.1.2.1.1.1)), (q 8, .inl (cR 8, 67, .inl ρ.1.2.1.1.2)), (q 9, .inl (cR 9, 67, .inr (.inl ρ.1.2.1.2))), (q 10, .inl (cR 10, 67, .inr (.inl ρ.1.2.2.1.1))), (q 11, .inl (cR 11, 67, .inl ρ.1.2.2.1.2)), (q 12, .inl (cR 12, 60, .inl ρ.2.1.1.1.1)), (q 13, .inl (cR 13, 60, .inl ρ.2.1.1.1.2)), (q 14, .inl (cR 14, 60, .inr (.inl ρ.2.1.1.2))), (q 15, .inl (cR 15, 60, .inr (.inl ρ.2.1.2.1.1))), (q 16, .inl (cR 16, 4, .inl ρ.2.1.2.1.2)), (q 17, .inl (cR 17, 4, .inl ρ.2.1.2.2)), (q 18, .inl (cR 18, 100, .inl ρ.2.2.1.1.2)), (q 19, .inl (cR 19, 5, .inl ρ.2.2.1.2)), (q 20, .inl (cR 20, 5, .inl ρ.2.2.2.1)), (q 21, .inl (cR 21, 5, .inl ρ.2.2.2.2))]) := hD
          refine lv_goto (tgt := 323) hx hb d_R_apply_135 (by decide) ?_
          obtain rfl := Option.some.inj hres
          exact W.vret hx hb hr (fun t ht hW => ⟨⟨(), rfl, trivial, by rw [ht]; exact hP, va_K.moved hW.alike hK, hD⟩, hS.F ht⟩) hS.2.2 d_R_apply_323
        · have hres := zi_n c_5_3 hres
          by_cases c_5_4 : a0 = 4
          · have hres := zi_p c_5_4 hres
            refine lv_tableIn (off := 111) (tgt := 116) hx hb d_R_apply_5 (by rw [c_5_4]; decide) (by rw [c_5_4]; decide) (by rw [c_5_4]; decide) (by decide) ?_
            refine lv_aload_n hx hb d_R_apply_116 rfl (lv_at hl 1 rfl) ?_
            refine va_get (D := D) (ci := 4) (v := .ref (q 5)) (C := R_R) (T := T_R) (N := 23) hx hb hts in_R hown hK hP (0) rfl rfl 4 (by decide) (hts _ k_432) (fun _ h9 => h9) rfl d_R_apply_117 ?_
            refine lv_iload hx hb d_R_apply_120 (lv_at hl 0 rfl) ?_
            refine lv_aload_n hx hb d_R_apply_122 rfl (lv_at hl 1 rfl) ?_
            refine va_get (D := D) (ci := 4) (v := .ref (q 5)) (C := R_R) (T := T_R) (N := 23) hx hb hts in_R hown hK hP (0) rfl rfl 4 (by decide) (hts _ k_432) (fun _ h9 => h9) rfl d_R_apply_123 ?_
            refine lv_iload hx hb d_R_apply_126 (lv_at hl 0 rfl) ?_
            refine va_lald hx hb hK hP 5 4 rfl rfl (show zin 65 67 by decide) d_R_apply_128 ?_
            refine lv_lconst (v := 1) hx hb d_R_apply_129 (by decide) ?_
            refine lv_lload_n hx hb d_R_apply_130 rfl (lv_at hl 3 rfl) ?_
            refine lv_l2i (v := a1.toInt32) hx hb d_R_apply_131 rfl ?_
            refine lv_lshl (v := (zs_l 1 a1.toInt32)) hx hb d_R_apply_132 rfl ?_
            refine lv_lxor hx hb d_R_apply_133 ?_
            refine va_last hx hb hK hP hD hS 5 4 rfl rfl (show zin 65 67 by decide) d_R_apply_134 (fun H locs hP hD hS => ?_)
            have hP : va_P D vwCl ([(q 0, .inr (4, [.ref (q 1), .ref (q 2), .ref (q 3), .ref (q 4), .ref (q 5), .ref (q 6), .ref (q 7), .ref (q 8), .ref (q 9), .ref (q 10), .ref (q 11), .int ρ.1.2.2.2, .ref (q 12), .ref (q 13), .ref (q 14), .ref (q 15), .ref (q 16), .ref (q 17), .int ρ.2.2.1.1.1, .ref (q 18), .ref (q 19), .ref (q 20), .ref (q 21)])), (q 1, .inl (cR 1, 67, .inr (.inl ρ.1.1.1.1.1))), (q 2, .inl (cR 2, 67, .inl ρ.1.1.1.1.2)), (q 3, .inl (cR 3, 67, .inl ρ.1.1.1.2)), (q 4, .inl (cR 4, 67, .inl ρ.1.1.2.1.1)), (q 5, .inl (cR 5, 67, .inr (.inl (vp_updL ρ.1.1.2.1.2 ((65 : Int32).toNatClampNeg) ((ρ.1.1.2.1.2 ((65 : Int32).toNatClampNeg)) ^^^ (zs_l 1 a1.toInt32)))))), (q 6, .inl (cR 6, 67, .inl ρ.1.1.2.2)), (q 7, .inl (cR 7, 536, .inl ρ.1.2.1.1.1)), (q 8, .inl (cR 8, 67, .inl ρ.1.2.1.1.2)), (q 9, .inl (cR 9, 67, .inr (.inl ρ.1.2.1.2))), (q 10, .inl (cR 10, 67, .inr (.inl ρ.1.2.2.1.1))), (q 11, .inl (cR 11, 67, .inl ρ.1.2.2.1.2)), (q 12, .inl (cR 12, 60, .inl ρ.2.1.1.1.1)), (q 13, .inl (cR 13, 60, .inl ρ.2.1.1.1.2)), (q 14, .inl (cR 14, 60, .inr (.inl ρ.2.1.1.2))), (q 15, .inl (cR 15, 60, .inr (.inl ρ.2.1.2.1.1))), (q 16, .inl (cR 16, 4, .inl ρ.2.1.2.1.2)), (q 17, .inl (cR 17, 4, .inl ρ.2.1.2.2)), (q 18, .inl (cR 18, 100, .inl ρ.2.2.1.1.2)), (q 19, .inl (cR 19, 5, .inl ρ.2.2.1.2)), (q 20, .inl (cR 20, 5, .inl ρ.2.2.2.1)), (q 21, .inl (cR 21, 5, .inl ρ.2.2.2.2))]) H := hP
            have hD : va_D A ([(q 0, .inr (4, [.ref (q 1), .ref (q 2), .ref (q 3), .ref (q 4), .ref (q 5), .ref (q 6), .ref (q 7), .ref (q 8), .ref (q 9), .ref (q 10), .ref (q 11), .int ρ.1.2.2.2, .ref (q 12), .ref (q 13), .ref (q 14), .ref (q 15), .ref (q 16), .ref (q 17), .int ρ.2.2.1.1.1, .ref (q 18), .ref (q 19), .ref (q 20), .ref (q 21)])), (q 1, .inl (cR 1, 67, .inr (.inl ρ.1.1.1.1.1))), (q 2, .inl (cR 2, 67, .inl ρ.1.1.1.1.2)), (q 3, .inl (cR 3, 67, .inl ρ.1.1.1.2)), (q 4, .inl (cR 4, 67, .inl ρ.1.1.2.1.1)), (q 5, .inl (cR 5, 67, .inr (.inl (vp_updL ρ.1.1.2.1.2 ((65 : Int32).toNatClampNeg) ((ρ.1.1.2.1.2 ((65 : Int32).toNatClampNeg)) ^^^ (zs_l 1 a1.toInt32)))))), (q 6, .inl (cR 6, 67, .inl ρ.1.1.2.2)), (q 7, .inl (cR 7, 536, .inl ρ.1.2.1.1.1)), (q 8, .inl (cR 8, 67, .inl ρ.1.2.1.1.2)), (q 9, .inl (cR 9, 67, .inr (.inl ρ.1.2.1.2))), (q 10, .inl (cR 10, 67, .inr (.inl ρ.1.2.2.1.1))), (q 11, .inl (cR 11, 67, .inl ρ.1.2.2.1.2)), (q 12, .inl (cR 12, 60, .inl ρ.2.1.1.1.1)), (q 13, .inl (cR 13, 60, .inl ρ.2.1.1.1.2)), (q 14, .inl (cR 14, 60, .inr (.inl ρ.2.1.1.2))), (q 15, .inl (cR 15, 60, .inr (.inl ρ.2.1.2.1.1))), (q 16, .inl (cR 16, 4, .inl ρ.2.1.2.1.2)), (q 17, .inl (cR 17, 4, .inl ρ.2.1.2.2)), (q 18, .inl (cR 18, 100, .inl ρ.2.2.1.1.2)), (q 19, .inl (cR 19, 5, .inl ρ.2.2.1.2)), (q 20, .inl (cR 20, 5, .inl ρ.2.2.2.1)), (q 21, .inl (cR 21, 5, .inl ρ.2.2.2.2))]) := hD
            refine lv_goto (tgt := 323) hx hb d_R_apply_135 (by decide) ?_
            obtain rfl := Option.some.inj hres
            exact W.vret hx hb hr (fun t ht hW => ⟨⟨(), rfl, trivial, by rw [ht]; exact hP, va_K.moved hW.alike hK, hD⟩, hS.F ht⟩) hS.2.2 d_R_apply_323
          · have hres := zi_n c_5_4 hres
            by_cases c_5_5 : a0 = 5
            · have hres := zi_p c_5_5 hres
              refine lv_tableIn (off := 133) (tgt := 138) hx hb d_R_apply_5 (by rw [c_5_5]; decide) (by rw [c_5_5]; decide) (by rw [c_5_5]; decide) (by decide) ?_
              refine lv_aload_n hx hb d_R_apply_138 rfl (lv_at hl 1 rfl) ?_
              refine va_get (D := D) (ci := 4) (v := .ref (q 7)) (C := R_R) (T := T_R) (N := 23) hx hb hts in_R hown hK hP (0) rfl rfl 6 (by decide) (hts _ k_434) (fun _ h9 => h9) rfl d_R_apply_139 ?_
              refine lv_bipush (v := 8) hx hb d_R_apply_142 (by decide) ?_
              refine lv_iload hx hb d_R_apply_144 (lv_at hl 0 rfl) ?_
              refine lv_imul hx hb d_R_apply_146 ?_
              refine lv_aload_n hx hb d_R_apply_147 rfl (lv_at hl 1 rfl) ?_
              refine va_get (D := D) (ci := 4) (v := .ref (q 6)) (C := R_R) (T := T_R) (N := 23) hx hb hts in_R hown hK hP (0) rfl rfl 5 (by decide) (hts _ k_433) (fun _ h9 => h9) rfl d_R_apply_148 ?_
              refine lv_iload hx hb d_R_apply_151 (lv_at hl 0 rfl) ?_
              refine va_iald hx hb hK hP 6 5 rfl rfl (show zin 65 67 by decide) d_R_apply_153 ?_
              refine lv_iadd hx hb d_R_apply_154 ?_
              refine lv_lload_n hx hb d_R_apply_155 rfl (lv_at hl 3 rfl) ?_
              refine lv_l2i (v := a1.toInt32) hx hb d_R_apply_156 rfl ?_
              by_cases ck_157 : zin ((8 * 65) + (ρ.1.1.2.2 ((65 : Int32).toNatClampNeg))) 536
              · have hres := zi_p ck_157 hres
                refine va_iast hx hb hK hP hD hS 7 6 rfl rfl ck_157 d_R_apply_157 (fun H locs hP hD hS => ?_)
                have hP : va_P D vwCl ([(q 0, .inr (4, [.ref (q 1), .ref (q 2), .ref (q 3), .ref (q 4), .ref (q 5), .ref (q 6), .ref (q 7), .ref (q 8), .ref (q 9), .ref (q 10), .ref (q 11), .int ρ.1.2.2.2, .ref (q 12), .ref (q 13), .ref (q 14), .ref (q 15), .ref (q 16), .ref (q 17), .int ρ.2.2.1.1.1, .ref (q 18), .ref (q 19), .ref (q 20), .ref (q 21)])), (q 1, .inl (cR 1, 67, .inr (.inl ρ.1.1.1.1.1))), (q 2, .inl (cR 2, 67, .inl ρ.1.1.1.1.2)), (q 3, .inl (cR 3, 67, .inl ρ.1.1.1.2)), (q 4, .inl (cR 4, 67, .inl ρ.1.1.2.1.1)), (q 5, .inl (cR 5, 67, .inr (.inl ρ.1.1.2.1.2))), (q 6, .inl (cR 6, 67, .inl ρ.1.1.2.2)), (q 7, .inl (cR 7, 536, .inl (upd ρ.1.2.1.1.1 ((8 * 65) + (ρ.1.1.2.2 ((65 : Int32).toNatClampNeg))).toNatClampNeg a1.toInt32))), (q 8, .inl (cR 8, 67, .inl ρ.1.2.1.1.2)), (q 9, .inl (cR 9, 67, .inr (.inl ρ.1.2.1.2))), (q 10, .inl (cR 10, 67, .inr (.inl ρ.1.2.2.1.1))), (q 11, .inl (cR 11, 67, .inl ρ.1.2.2.1.2)), (q 12, .inl (cR 12, 60, .inl ρ.2.1.1.1.1)), (q 13, .inl (cR 13, 60, .inl ρ.2.1.1.1.2)), (q 14, .inl (cR 14, 60, .inr (.inl ρ.2.1.1.2))), (q 15, .inl (cR 15, 60, .inr (.inl ρ.2.1.2.1.1))), (q 16, .inl (cR 16, 4, .inl ρ.2.1.2.1.2)), (q 17, .inl (cR 17, 4, .inl ρ.2.1.2.2)), (q 18, .inl (cR 18, 100, .inl ρ.2.2.1.1.2)), (q 19, .inl (cR 19, 5, .inl ρ.2.2.1.2)), (q 20, .inl (cR 20, 5, .inl ρ.2.2.2.1)), (q 21, .inl (cR 21, 5, .inl ρ.2.2.2.2))]) H := hP
                have hD : va_D A ([(q 0, .inr (4, [.ref (q 1), .ref (q 2), .ref (q 3), .ref (q 4), .ref (q 5), .ref (q 6), .ref (q 7), .ref (q 8), .ref (q 9), .ref (q 10), .ref (q 11), .int ρ.1.2.2.2, .ref (q 12), .ref (q 13), .ref (q 14), .ref (q 15), .ref (q 16), .ref (q 17), .int ρ.2.2.1.1.1, .ref (q 18), .ref (q 19), .ref (q 20), .ref (q 21)])), (q 1, .inl (cR 1, 67, .inr (.inl ρ.1.1.1.1.1))), (q 2, .inl (cR 2, 67, .inl ρ.1.1.1.1.2)), (q 3, .inl (cR 3, 67, .inl ρ.1.1.1.2)), (q 4, .inl (cR 4, 67, .inl ρ.1.1.2.1.1)), (q 5, .inl (cR 5, 67, .inr (.inl ρ.1.1.2.1.2))), (q 6, .inl (cR 6, 67, .inl ρ.1.1.2.2)), (q 7, .inl (cR 7, 536, .inl (upd ρ.1.2.1.1.1 ((8 * 65) + (ρ.1.1.2.2 ((65 : Int32).toNatClampNeg))).toNatClampNeg a1.toInt32))), (q 8, .inl (cR 8, 67, .inl ρ.1.2.1.1.2)), (q 9, .inl (cR 9, 67, .inr (.inl ρ.1.2.1.2))), (q 10, .inl (cR 10, 67, .inr (.inl ρ.1.2.2.1.1))), (q 11, .inl (cR 11, 67, .inl ρ.1.2.2.1.2)), (q 12, .inl (cR 12, 60, .inl ρ.2.1.1.1.1)), (q 13, .inl (cR 13, 60, .inl ρ.2.1.1.1.2)), (q 14, .inl (cR 14, 60, .inr (.inl ρ.2.1.1.2))), (q 15, .inl (cR 15, 60, .inr (.inl ρ.2.1.2.1.1))), (q 16, .inl (cR 16, 4, .inl ρ.2.1.2.1.2)), (q 17, .inl (cR 17, 4, .inl ρ.2.1.2.2)), (q 18, .inl (cR 18, 100, .inl ρ.2.2.1.1.2)), (q 19, .inl (cR 19, 5, .inl ρ.2.2.1.2)), (q 20, .inl (cR 20, 5, .inl ρ.2.2.2.1)), (q 21, .inl (cR 21, 5, .inl ρ.2.2.2.2))]) := hD
                refine lv_aload_n hx hb d_R_apply_158 rfl (lv_at hl 1 rfl) ?_
                refine va_get (D := D) (ci := 4) (v := .ref (q 6)) (C := R_R) (T := T_R) (N := 23) hx hb hts in_R hown hK hP (0) rfl rfl 5 (by decide) (hts _ k_433) (fun _ h9 => h9) rfl d_R_apply_159 ?_
                refine lv_iload hx hb d_R_apply_162 (lv_at hl 0 rfl) ?_
                refine lv_dup2_11 hx hb d_R_apply_164 rfl rfl ?_
                refine va_iald hx hb hK hP 6 5 rfl rfl (show zin 65 67 by decide) d_R_apply_165 ?_
                refine lv_iconst (v := 1) hx hb d_R_apply_166 (by decide) ?_
                refine lv_iadd hx hb d_R_apply_167 ?_
                refine va_iast hx hb hK hP hD hS 6 5 rfl rfl (show zin 65 67 by decide) d_R_apply_168 (fun H locs hP hD hS => ?_)
                have hP : va_P D vwCl ([(q 0, .inr (4, [.ref (q 1), .ref (q 2), .ref (q 3), .ref (q 4), .ref (q 5), .ref (q 6), .ref (q 7), .ref (q 8), .ref (q 9), .ref (q 10), .ref (q 11), .int ρ.1.2.2.2, .ref (q 12), .ref (q 13), .ref (q 14), .ref (q 15), .ref (q 16), .ref (q 17), .int ρ.2.2.1.1.1, .ref (q 18), .ref (q 19), .ref (q 20), .ref (q 21)])), (q 1, .inl (cR 1, 67, .inr (.inl ρ.1.1.1.1.1))), (q 2, .inl (cR 2, 67, .inl ρ.1.1.1.1.2)), (q 3, .inl (cR 3, 67, .inl ρ.1.1.1.2)), (q 4, .inl (cR 4, 67, .inl ρ.1.1.2.1.1)), (q 5, .inl (cR 5, 67, .inr (.inl ρ.1.1.2.1.2))), (q 6, .inl (cR 6, 67, .inl (upd ρ.1.1.2.2 ((65 : Int32).toNatClampNeg) ((ρ.1.1.2.2 ((65 : Int32).toNatClampNeg)) + 1)))), (q 7, .inl (cR 7, 536, .inl (upd ρ.1.2.1.1.1 ((8 * 65) + (ρ.1.1.2.2 ((65 : Int32).toNatClampNeg))).toNatClampNeg a1.toInt32))), (q 8, .inl (cR 8, 67, .inl ρ.1.2.1.1.2)), (q 9, .inl (cR 9, 67, .inr (.inl ρ.1.2.1.2))), (q 10, .inl (cR 10, 67, .inr (.inl ρ.1.2.2.1.1))), (q 11, .inl (cR 11, 67, .inl ρ.1.2.2.1.2)), (q 12, .inl (cR 12, 60, .inl ρ.2.1.1.1.1)), (q 13, .inl (cR 13, 60, .inl ρ.2.1.1.1.2)), (q 14, .inl (cR 14, 60, .inr (.inl ρ.2.1.1.2))), (q 15, .inl (cR 15, 60, .inr (.inl ρ.2.1.2.1.1))), (q 16, .inl (cR 16, 4, .inl ρ.2.1.2.1.2)), (q 17, .inl (cR 17, 4, .inl ρ.2.1.2.2)), (q 18, .inl (cR 18, 100, .inl ρ.2.2.1.1.2)), (q 19, .inl (cR 19, 5, .inl ρ.2.2.1.2)), (q 20, .inl (cR 20, 5, .inl ρ.2.2.2.1)), (q 21, .inl (cR 21, 5, .inl ρ.2.2.2.2))]) H := hP
                have hD : va_D A ([(q 0, .inr (4, [.ref (q 1), .ref (q 2), .ref (q 3), .ref (q 4), .ref (q 5), .ref (q 6), .ref (q 7), .ref (q 8), .ref (q 9), .ref (q 10), .ref (q 11), .int ρ.1.2.2.2, .ref (q 12), .ref (q 13), .ref (q 14), .ref (q 15), .ref (q 16), .ref (q 17), .int ρ.2.2.1.1.1, .ref (q 18), .ref (q 19), .ref (q 20), .ref (q 21)])), (q 1, .inl (cR 1, 67, .inr (.inl ρ.1.1.1.1.1))), (q 2, .inl (cR 2, 67, .inl ρ.1.1.1.1.2)), (q 3, .inl (cR 3, 67, .inl ρ.1.1.1.2)), (q 4, .inl (cR 4, 67, .inl ρ.1.1.2.1.1)), (q 5, .inl (cR 5, 67, .inr (.inl ρ.1.1.2.1.2))), (q 6, .inl (cR 6, 67, .inl (upd ρ.1.1.2.2 ((65 : Int32).toNatClampNeg) ((ρ.1.1.2.2 ((65 : Int32).toNatClampNeg)) + 1)))), (q 7, .inl (cR 7, 536, .inl (upd ρ.1.2.1.1.1 ((8 * 65) + (ρ.1.1.2.2 ((65 : Int32).toNatClampNeg))).toNatClampNeg a1.toInt32))), (q 8, .inl (cR 8, 67, .inl ρ.1.2.1.1.2)), (q 9, .inl (cR 9, 67, .inr (.inl ρ.1.2.1.2))), (q 10, .inl (cR 10, 67, .inr (.inl ρ.1.2.2.1.1))), (q 11, .inl (cR 11, 67, .inl ρ.1.2.2.1.2)), (q 12, .inl (cR 12, 60, .inl ρ.2.1.1.1.1)), (q 13, .inl (cR 13, 60, .inl ρ.2.1.1.1.2)), (q 14, .inl (cR 14, 60, .inr (.inl ρ.2.1.1.2))), (q 15, .inl (cR 15, 60, .inr (.inl ρ.2.1.2.1.1))), (q 16, .inl (cR 16, 4, .inl ρ.2.1.2.1.2)), (q 17, .inl (cR 17, 4, .inl ρ.2.1.2.2)), (q 18, .inl (cR 18, 100, .inl ρ.2.2.1.1.2)), (q 19, .inl (cR 19, 5, .inl ρ.2.2.1.2)), (q 20, .inl (cR 20, 5, .inl ρ.2.2.2.1)), (q 21, .inl (cR 21, 5, .inl ρ.2.2.2.2))]) := hD
                refine lv_goto (tgt := 323) hx hb d_R_apply_169 (by decide) ?_
                obtain rfl := Option.some.inj hres
                exact W.vret hx hb hr (fun t ht hW => ⟨⟨(), rfl, trivial, by rw [ht]; exact hP, va_K.moved hW.alike hK, hD⟩, hS.F ht⟩) hS.2.2 d_R_apply_323
              · exact absurd (zi_n ck_157 hres) (by simp)
            · have hres := zi_n c_5_5 hres
              by_cases c_5_6 : a0 = 6
              · have hres := zi_p c_5_6 hres
                refine lv_tableIn (off := 167) (tgt := 172) hx hb d_R_apply_5 (by rw [c_5_6]; decide) (by rw [c_5_6]; decide) (by rw [c_5_6]; decide) (by decide) ?_
                refine lv_aload_n hx hb d_R_apply_172 rfl (lv_at hl 1 rfl) ?_
                refine va_get (D := D) (ci := 4) (v := .ref (q 6)) (C := R_R) (T := T_R) (N := 23) hx hb hts in_R hown hK hP (0) rfl rfl 5 (by decide) (hts _ k_433) (fun _ h9 => h9) rfl d_R_apply_173 ?_
                refine lv_iload hx hb d_R_apply_176 (lv_at hl 0 rfl) ?_
                refine lv_dup2_11 hx hb d_R_apply_178 rfl rfl ?_
                refine va_iald hx hb hK hP 6 5 rfl rfl (show zin 65 67 by decide) d_R_apply_179 ?_
                refine lv_iconst (v := 1) hx hb d_R_apply_180 (by decide) ?_
                refine lv_isub hx hb d_R_apply_181 ?_
                refine va_iast hx hb hK hP hD hS 6 5 rfl rfl (show zin 65 67 by decide) d_R_apply_182 (fun H locs hP hD hS => ?_)
                have hP : va_P D vwCl ([(q 0, .inr (4, [.ref (q 1), .ref (q 2), .ref (q 3), .ref (q 4), .ref (q 5), .ref (q 6), .ref (q 7), .ref (q 8), .ref (q 9), .ref (q 10), .ref (q 11), .int ρ.1.2.2.2, .ref (q 12), .ref (q 13), .ref (q 14), .ref (q 15), .ref (q 16), .ref (q 17), .int ρ.2.2.1.1.1, .ref (q 18), .ref (q 19), .ref (q 20), .ref (q 21)])), (q 1, .inl (cR 1, 67, .inr (.inl ρ.1.1.1.1.1))), (q 2, .inl (cR 2, 67, .inl ρ.1.1.1.1.2)), (q 3, .inl (cR 3, 67, .inl ρ.1.1.1.2)), (q 4, .inl (cR 4, 67, .inl ρ.1.1.2.1.1)), (q 5, .inl (cR 5, 67, .inr (.inl ρ.1.1.2.1.2))), (q 6, .inl (cR 6, 67, .inl (upd ρ.1.1.2.2 ((65 : Int32).toNatClampNeg) ((ρ.1.1.2.2 ((65 : Int32).toNatClampNeg)) - 1)))), (q 7, .inl (cR 7, 536, .inl ρ.1.2.1.1.1)), (q 8, .inl (cR 8, 67, .inl ρ.1.2.1.1.2)), (q 9, .inl (cR 9, 67, .inr (.inl ρ.1.2.1.2))), (q 10, .inl (cR 10, 67, .inr (.inl ρ.1.2.2.1.1))), (q 11, .inl (cR 11, 67, .inl ρ.1.2.2.1.2)), (q 12, .inl (cR 12, 60, .inl ρ.2.1.1.1.1)), (q 13, .inl (cR 13, 60, .inl ρ.2.1.1.1.2)), (q 14, .inl (cR 14, 60, .inr (.inl ρ.2.1.1.2))), (q 15, .inl (cR 15, 60, .inr (.inl ρ.2.1.2.1.1))), (q 16, .inl (cR 16, 4, .inl ρ.2.1.2.1.2)), (q 17, .inl (cR 17, 4, .inl ρ.2.1.2.2)), (q 18, .inl (cR 18, 100, .inl ρ.2.2.1.1.2)), (q 19, .inl (cR 19, 5, .inl ρ.2.2.1.2)), (q 20, .inl (cR 20, 5, .inl ρ.2.2.2.1)), (q 21, .inl (cR 21, 5, .inl ρ.2.2.2.2))]) H := hP
                have hD : va_D A ([(q 0, .inr (4, [.ref (q 1), .ref (q 2), .ref (q 3), .ref (q 4), .ref (q 5), .ref (q 6), .ref (q 7), .ref (q 8), .ref (q 9), .ref (q 10), .ref (q 11), .int ρ.1.2.2.2, .ref (q 12), .ref (q 13), .ref (q 14), .ref (q 15), .ref (q 16), .ref (q 17), .int ρ.2.2.1.1.1, .ref (q 18), .ref (q 19), .ref (q 20), .ref (q 21)])), (q 1, .inl (cR 1, 67, .inr (.inl ρ.1.1.1.1.1))), (q 2, .inl (cR 2, 67, .inl ρ.1.1.1.1.2)), (q 3, .inl (cR 3, 67, .inl ρ.1.1.1.2)), (q 4, .inl (cR 4, 67, .inl ρ.1.1.2.1.1)), (q 5, .inl (cR 5, 67, .inr (.inl ρ.1.1.2.1.2))), (q 6, .inl (cR 6, 67, .inl (upd ρ.1.1.2.2 ((65 : Int32).toNatClampNeg) ((ρ.1.1.2.2 ((65 : Int32).toNatClampNeg)) - 1)))), (q 7, .inl (cR 7, 536, .inl ρ.1.2.1.1.1)), (q 8, .inl (cR 8, 67, .inl ρ.1.2.1.1.2)), (q 9, .inl (cR 9, 67, .inr (.inl ρ.1.2.1.2))), (q 10, .inl (cR 10, 67, .inr (.inl ρ.1.2.2.1.1))), (q 11, .inl (cR 11, 67, .inl ρ.1.2.2.1.2)), (q 12, .inl (cR 12, 60, .inl ρ.2.1.1.1.1)), (q 13, .inl (cR 13, 60, .inl ρ.2.1.1.1.2)), (q 14, .inl (cR 14, 60, .inr (.inl ρ.2.1.1.2))), (q 15, .inl (cR 15, 60, .inr (.inl ρ.2.1.2.1.1))), (q 16, .inl (cR 16, 4, .inl ρ.2.1.2.1.2)), (q 17, .inl (cR 17, 4, .inl ρ.2.1.2.2)), (q 18, .inl (cR 18, 100, .inl ρ.2.2.1.1.2)), (q 19, .inl (cR 19, 5, .inl ρ.2.2.1.2)), (q 20, .inl (cR 20, 5, .inl ρ.2.2.2.1)), (q 21, .inl (cR 21, 5, .inl ρ.2.2.2.2))]) := hD
                refine lv_iconst (v := 0) hx hb d_R_apply_183 (by decide) ?_
                refine lv_istore (lv' := [(5, .int 0), (4, .int 65), (0, .ref (q 0)), (1, .int a0), (2, .long a1)]) hx hb d_R_apply_184 hl (by decide) rfl (fun ls hl => ?_)
                obtain ⟨w186, hL186, hres⟩ := zo_b hres
                have hk186 : ∀ (H : Heap) (locs : List Loc), va_P D vwCl (zR q cR w186.2) H → va_D A (zR q cR w186.2) → va_S A s.heap H locs → ∀ (ls : Array Slot), lv_has ls 6 [(5, .int w186.1), (4, .int 65), (0, .ref (q 0)), (1, .int a0), (2, .long a1)] → W p l e (headSpec w_R_apply ({ frames := 0, cells := 0, slots := 0, locals := 0 } : Room)).room s m ([.ref (q 0), .int a0, .long a1].toArray) below meth c H locs 0 0 (MQ below (qd_R_apply D tys q cR ρ a0 a1 v A) ([.ref (q 0), .int a0, .long a1].toArray) s 0 0 A) (F0 m 232 ls []) := by
                  intro H locs hP hD hS ls hl
                  refine lv_goto (tgt := 323) hx hb d_R_apply_232 (by decide) ?_
                  obtain rfl := Option.some.inj hres
                  exact W.vret hx hb hr (fun t ht hW => ⟨⟨(), rfl, trivial, by rw [ht]; exact hP, va_K.moved hW.alike hK, hD⟩, hS.F ht⟩) hS.2.2 d_R_apply_323
                have hloop186 : ∀ (n : Nat) (x186_5 : Int32) (g186 : RSt) (H : Heap) (locs : List Loc), va_P D vwCl (zR q cR g186) H → va_D A (zR q cR g186) → va_S A s.heap H locs → ∀ (ls : Array Slot), lv_has ls 6 [(5, .int x186_5), (4, .int 65), (0, .ref (q 0)), (1, .int a0), (2, .long a1)] → L_R_apply_186 n x186_5 g186 = some w186 → W p l e (headSpec w_R_apply ({ frames := 0, cells := 0, slots := 0, locals := 0 } : Room)).room s m ([.ref (q 0), .int a0, .long a1].toArray) below meth c H locs 0 0 (MQ below (qd_R_apply D tys q cR ρ a0 a1 v A) ([.ref (q 0), .int a0, .long a1].toArray) s 0 0 A) (F0 m 186 ls []) := by
                  intro n
                  induction n with
                  | zero => intro x186_5 g186 H locs hP hD hS ls hl hL186; cases hL186
                  | succ n ih =>
                    intro x186_5 g186 H locs hP hD hS ls hl hL186
                    rw [L_R_apply_186] at hL186
                    refine lv_iload hx hb d_R_apply_186 (lv_at hl 0 rfl) ?_
                    refine lv_aload_n hx hb d_R_apply_188 rfl (lv_at hl 2 rfl) ?_
                    refine va_get (D := D) (ci := 4) (v := .ref (q 6)) (C := R_R) (T := T_R) (N := 23) hx hb hts in_R hown hK hP (0) rfl rfl 5 (by decide) (hts _ k_433) (fun _ h9 => h9) rfl d_R_apply_189 ?_
                    refine lv_iload hx hb d_R_apply_192 (lv_at hl 1 rfl) ?_
                    refine va_iald hx hb hK hP 6 5 rfl rfl (show zin 65 67 by decide) d_R_apply_194 ?_
                    refine lv_icmp_ge (tgt := 232) hx hb d_R_apply_195 (by decide) (fun c_195 => ?_) (fun c_195 => ?_)
                    · have hL186 := zi_p c_195 hL186
                      obtain rfl := Option.some.inj hL186
                      exact hk186 _ _ hP hD hS ls (lv_sub hl [0, 1, 2, 3, 4] rfl)
                    · have hL186 := zi_n c_195 hL186
                      refine lv_aload_n hx hb d_R_apply_198 rfl (lv_at hl 2 rfl) ?_
                      refine va_get (D := D) (ci := 4) (v := .ref (q 7)) (C := R_R) (T := T_R) (N := 23) hx hb hts in_R hown hK hP (0) rfl rfl 6 (by decide) (hts _ k_434) (fun _ h9 => h9) rfl d_R_apply_199 ?_
                      refine lv_bipush (v := 8) hx hb d_R_apply_202 (by decide) ?_
                      refine lv_iload hx hb d_R_apply_204 (lv_at hl 1 rfl) ?_
                      refine lv_imul hx hb d_R_apply_206 ?_
                      refine lv_iload hx hb d_R_apply_207 (lv_at hl 0 rfl) ?_
                      refine lv_iadd hx hb d_R_apply_209 ?_
                      refine lv_aload_n hx hb d_R_apply_210 rfl (lv_at hl 2 rfl) ?_
                      refine va_get (D := D) (ci := 4) (v := .ref (q 7)) (C := R_R) (T := T_R) (N := 23) hx hb hts in_R hown hK hP (0) rfl rfl 6 (by decide) (hts _ k_434) (fun _ h9 => h9) rfl d_R_apply_211 ?_
                      refine lv_bipush (v := 8) hx hb d_R_apply_214 (by decide) ?_
                      refine lv_iload hx hb d_R_apply_216 (lv_at hl 1 rfl) ?_
                      refine lv_imul hx hb d_R_apply_218 ?_
                      refine lv_iload hx hb d_R_apply_219 (lv_at hl 0 rfl) ?_
                      refine lv_iadd hx hb d_R_apply_221 ?_
                      refine lv_iconst (v := 1) hx hb d_R_apply_222 (by decide) ?_
                      refine lv_iadd hx hb d_R_apply_223 ?_
                      by_cases ck_224 : zin (((8 * 65) + x186_5) + 1) 536
                      · have hL186 := zi_p ck_224 hL186
                        refine va_iald hx hb hK hP 7 6 rfl rfl ck_224 d_R_apply_224 ?_
                        by_cases ck_225 : zin ((8 * 65) + x186_5) 536
                        · have hL186 := zi_p ck_225 hL186
                          refine va_iast hx hb hK hP hD hS 7 6 rfl rfl ck_225 d_R_apply_225 (fun H locs hP hD hS => ?_)
                          have hP : va_P D vwCl ([(q 0, .inr (4, [.ref (q 1), .ref (q 2), .ref (q 3), .ref (q 4), .ref (q 5), .ref (q 6), .ref (q 7), .ref (q 8), .ref (q 9), .ref (q 10), .ref (q 11), .int g186.1.2.2.2, .ref (q 12), .ref (q 13), .ref (q 14), .ref (q 15), .ref (q 16), .ref (q 17), .int g186.2.2.1.1.1, .ref (q 18), .ref (q 19), .ref (q 20), .ref (q 21)])), (q 1, .inl (cR 1, 67, .inr (.inl g186.1.1.1.1.1))), (q 2, .inl (cR 2, 67, .inl g186.1.1.1.1.2)), (q 3, .inl (cR 3, 67, .inl g186.1.1.1.2)), (q 4, .inl (cR 4, 67, .inl g186.1.1.2.1.1)), (q 5, .inl (cR 5, 67, .inr (.inl g186.1.1.2.1.2))), (q 6, .inl (cR 6, 67, .inl g186.1.1.2.2)), (q 7, .inl (cR 7, 536, .inl (upd g186.1.2.1.1.1 ((8 * 65) + x186_5).toNatClampNeg (g186.1.2.1.1.1 (((8 * 65) + x186_5) + 1).toNatClampNeg)))), (q 8, .inl (cR 8, 67, .inl g186.1.2.1.1.2)), (q 9, .inl (cR 9, 67, .inr (.inl g186.1.2.1.2))), (q 10, .inl (cR 10, 67, .inr (.inl g186.1.2.2.1.1))), (q 11, .inl (cR 11, 67, .inl g186.1.2.2.1.2)), (q 12, .inl (cR 12, 60, .inl g186.2.1.1.1.1)), (q 13, .inl (cR 13, 60, .inl g186.2.1.1.1.2)), (q 14, .inl (cR 14, 60, .inr (.inl g186.2.1.1.2))), (q 15, .inl (cR 15, 60, .inr (.inl g186.2.1.2.1.1))), (q 16, .inl (cR 16, 4, .inl g186.2.1.2.1.2)), (q 17, .inl (cR 17, 4, .inl g186.2.1.2.2)), (q 18, .inl (cR 18, 100, .inl g186.2.2.1.1.2)), (q 19, .inl (cR 19, 5, .inl g186.2.2.1.2)), (q 20, .inl (cR 20, 5, .inl g186.2.2.2.1)), (q 21, .inl (cR 21, 5, .inl g186.2.2.2.2))]) H := hP
                          have hD : va_D A ([(q 0, .inr (4, [.ref (q 1), .ref (q 2), .ref (q 3), .ref (q 4), .ref (q 5), .ref (q 6), .ref (q 7), .ref (q 8), .ref (q 9), .ref (q 10), .ref (q 11), .int g186.1.2.2.2, .ref (q 12), .ref (q 13), .ref (q 14), .ref (q 15), .ref (q 16), .ref (q 17), .int g186.2.2.1.1.1, .ref (q 18), .ref (q 19), .ref (q 20), .ref (q 21)])), (q 1, .inl (cR 1, 67, .inr (.inl g186.1.1.1.1.1))), (q 2, .inl (cR 2, 67, .inl g186.1.1.1.1.2)), (q 3, .inl (cR 3, 67, .inl g186.1.1.1.2)), (q 4, .inl (cR 4, 67, .inl g186.1.1.2.1.1)), (q 5, .inl (cR 5, 67, .inr (.inl g186.1.1.2.1.2))), (q 6, .inl (cR 6, 67, .inl g186.1.1.2.2)), (q 7, .inl (cR 7, 536, .inl (upd g186.1.2.1.1.1 ((8 * 65) + x186_5).toNatClampNeg (g186.1.2.1.1.1 (((8 * 65) + x186_5) + 1).toNatClampNeg)))), (q 8, .inl (cR 8, 67, .inl g186.1.2.1.1.2)), (q 9, .inl (cR 9, 67, .inr (.inl g186.1.2.1.2))), (q 10, .inl (cR 10, 67, .inr (.inl g186.1.2.2.1.1))), (q 11, .inl (cR 11, 67, .inl g186.1.2.2.1.2)), (q 12, .inl (cR 12, 60, .inl g186.2.1.1.1.1)), (q 13, .inl (cR 13, 60, .inl g186.2.1.1.1.2)), (q 14, .inl (cR 14, 60, .inr (.inl g186.2.1.1.2))), (q 15, .inl (cR 15, 60, .inr (.inl g186.2.1.2.1.1))), (q 16, .inl (cR 16, 4, .inl g186.2.1.2.1.2)), (q 17, .inl (cR 17, 4, .inl g186.2.1.2.2)), (q 18, .inl (cR 18, 100, .inl g186.2.2.1.1.2)), (q 19, .inl (cR 19, 5, .inl g186.2.2.1.2)), (q 20, .inl (cR 20, 5, .inl g186.2.2.2.1)), (q 21, .inl (cR 21, 5, .inl g186.2.2.2.2))]) := hD
                          refine lv_iinc (v := (x186_5 + 1)) (lv' := [(5, .int (x186_5 + 1)), (4, .int 65), (0, .ref (q 0)), (1, .int a0), (2, .long a1)]) hx hb d_R_apply_226 hl (k := 0) rfl rfl (by decide) rfl (fun ls hl => ?_)
                          refine lv_goto (tgt := 186) hx hb d_R_apply_229 (by decide) ?_
                          exact ih (x186_5 + 1) (((((g186.1.1.1.1.1, g186.1.1.1.1.2), g186.1.1.1.2), ((g186.1.1.2.1.1, g186.1.1.2.1.2), g186.1.1.2.2)), ((((upd g186.1.2.1.1.1 ((8 * 65) + x186_5).toNatClampNeg (g186.1.2.1.1.1 (((8 * 65) + x186_5) + 1).toNatClampNeg)), g186.1.2.1.1.2), g186.1.2.1.2), ((g186.1.2.2.1.1, g186.1.2.2.1.2), g186.1.2.2.2))), ((((g186.2.1.1.1.1, g186.2.1.1.1.2), g186.2.1.1.2), ((g186.2.1.2.1.1, g186.2.1.2.1.2), g186.2.1.2.2)), (((g186.2.2.1.1.1, g186.2.2.1.1.2), g186.2.2.1.2), (g186.2.2.2.1, g186.2.2.2.2)))) _ _ hP hD hS ls (lv_sub hl [0, 1, 2, 3, 4] rfl) hL186
                        · exact absurd (zi_n ck_225 hL186) (by simp)
                      · exact absurd (zi_n ck_224 hL186) (by simp)
                exact hloop186 zfuel 0 (((((ρ.1.1.1.1.1, ρ.1.1.1.1.2), ρ.1.1.1.2), ((ρ.1.1.2.1.1, ρ.1.1.2.1.2), (upd ρ.1.1.2.2 ((65 : Int32).toNatClampNeg) ((ρ.1.1.2.2 ((65 : Int32).toNatClampNeg)) - 1)))), (((ρ.1.2.1.1.1, ρ.1.2.1.1.2), ρ.1.2.1.2), ((ρ.1.2.2.1.1, ρ.1.2.2.1.2), ρ.1.2.2.2))), ((((ρ.2.1.1.1.1, ρ.2.1.1.1.2), ρ.2.1.1.2), ((ρ.2.1.2.1.1, ρ.2.1.2.1.2), ρ.2.1.2.2)), (((ρ.2.2.1.1.1, ρ.2.2.1.1.2), ρ.2.2.1.2), (ρ.2.2.2.1, ρ.2.2.2.2)))) _ _ hP hD hS ls (lv_sub hl [0, 1, 2, 3, 4] rfl) hL186
              · have hres := zi_n c_5_6 hres
                by_cases c_5_7 : a0 = 7
                · have hres := zi_p c_5_7 hres
                  refine lv_tableIn (off := 230) (tgt := 235) hx hb d_R_apply_5 (by rw [c_5_7]; decide) (by rw [c_5_7]; decide) (by rw [c_5_7]; decide) (by decide) ?_
                  refine lv_aload_n hx hb d_R_apply_235 rfl (lv_at hl 1 rfl) ?_
                  refine va_get (D := D) (ci := 4) (v := .ref (q 9)) (C := R_R) (T := T_R) (N := 23) hx hb hts in_R hown hK hP (0) rfl rfl 8 (by decide) (hts _ k_436) (fun _ h9 => h9) rfl d_R_apply_236 ?_
                  refine lv_iload hx hb d_R_apply_239 (lv_at hl 0 rfl) ?_
                  refine lv_aload_n hx hb d_R_apply_241 rfl (lv_at hl 1 rfl) ?_
                  refine va_get (D := D) (ci := 4) (v := .ref (q 8)) (C := R_R) (T := T_R) (N := 23) hx hb hts in_R hown hK hP (0) rfl rfl 7 (by decide) (hts _ k_435) (fun _ h9 => h9) rfl d_R_apply_242 ?_
                  refine lv_iload hx hb d_R_apply_245 (lv_at hl 0 rfl) ?_
                  refine va_zald hx hb hK hP 8 7 rfl rfl (show zin 65 67 by decide) d_R_apply_247 ?_
                  have hj264 : ∀ (j264_s0 : Int64) (H : Heap) (locs : List Loc), va_P D vwCl (zR q cR ρ) H → va_D A (zR q cR ρ) → va_S A s.heap H locs → ∀ (ls : Array Slot), lv_has ls 6 [(4, .int 65), (0, .ref (q 0)), (1, .int a0), (2, .long a1)] → J_R_apply_264 ρ j264_s0 = some v → W p l e (headSpec w_R_apply ({ frames := 0, cells := 0, slots := 0, locals := 0 } : Room)).room s m ([.ref (q 0), .int a0, .long a1].toArray) below meth c H locs 0 0 (MQ below (qd_R_apply D tys q cR ρ a0 a1 v A) ([.ref (q 0), .int a0, .long a1].toArray) s 0 0 A) (F0 m 264 ls [.long j264_s0, .int 65, .ref (q 9)]) := by
                    intro j264_s0 H locs hP hD hS ls hl hres
                    unfold J_R_apply_264 at hres
                    refine va_last hx hb hK hP hD hS 9 8 rfl rfl (show zin 65 67 by decide) d_R_apply_264 (fun H locs hP hD hS => ?_)
                    have hP : va_P D vwCl ([(q 0, .inr (4, [.ref (q 1), .ref (q 2), .ref (q 3), .ref (q 4), .ref (q 5), .ref (q 6), .ref (q 7), .ref (q 8), .ref (q 9), .ref (q 10), .ref (q 11), .int ρ.1.2.2.2, .ref (q 12), .ref (q 13), .ref (q 14), .ref (q 15), .ref (q 16), .ref (q 17), .int ρ.2.2.1.1.1, .ref (q 18), .ref (q 19), .ref (q 20), .ref (q 21)])), (q 1, .inl (cR 1, 67, .inr (.inl ρ.1.1.1.1.1))), (q 2, .inl (cR 2, 67, .inl ρ.1.1.1.1.2)), (q 3, .inl (cR 3, 67, .inl ρ.1.1.1.2)), (q 4, .inl (cR 4, 67, .inl ρ.1.1.2.1.1)), (q 5, .inl (cR 5, 67, .inr (.inl ρ.1.1.2.1.2))), (q 6, .inl (cR 6, 67, .inl ρ.1.1.2.2)), (q 7, .inl (cR 7, 536, .inl ρ.1.2.1.1.1)), (q 8, .inl (cR 8, 67, .inl ρ.1.2.1.1.2)), (q 9, .inl (cR 9, 67, .inr (.inl (vp_updL ρ.1.2.1.2 ((65 : Int32).toNatClampNeg) j264_s0)))), (q 10, .inl (cR 10, 67, .inr (.inl ρ.1.2.2.1.1))), (q 11, .inl (cR 11, 67, .inl ρ.1.2.2.1.2)), (q 12, .inl (cR 12, 60, .inl ρ.2.1.1.1.1)), (q 13, .inl (cR 13, 60, .inl ρ.2.1.1.1.2)), (q 14, .inl (cR 14, 60, .inr (.inl ρ.2.1.1.2))), (q 15, .inl (cR 15, 60, .inr (.inl ρ.2.1.2.1.1))), (q 16, .inl (cR 16, 4, .inl ρ.2.1.2.1.2)), (q 17, .inl (cR 17, 4, .inl ρ.2.1.2.2)), (q 18, .inl (cR 18, 100, .inl ρ.2.2.1.1.2)), (q 19, .inl (cR 19, 5, .inl ρ.2.2.1.2)), (q 20, .inl (cR 20, 5, .inl ρ.2.2.2.1)), (q 21, .inl (cR 21, 5, .inl ρ.2.2.2.2))]) H := hP
                    have hD : va_D A ([(q 0, .inr (4, [.ref (q 1), .ref (q 2), .ref (q 3), .ref (q 4), .ref (q 5), .ref (q 6), .ref (q 7), .ref (q 8), .ref (q 9), .ref (q 10), .ref (q 11), .int ρ.1.2.2.2, .ref (q 12), .ref (q 13), .ref (q 14), .ref (q 15), .ref (q 16), .ref (q 17), .int ρ.2.2.1.1.1, .ref (q 18), .ref (q 19), .ref (q 20), .ref (q 21)])), (q 1, .inl (cR 1, 67, .inr (.inl ρ.1.1.1.1.1))), (q 2, .inl (cR 2, 67, .inl ρ.1.1.1.1.2)), (q 3, .inl (cR 3, 67, .inl ρ.1.1.1.2)), (q 4, .inl (cR 4, 67, .inl ρ.1.1.2.1.1)), (q 5, .inl (cR 5, 67, .inr (.inl ρ.1.1.2.1.2))), (q 6, .inl (cR 6, 67, .inl ρ.1.1.2.2)), (q 7, .inl (cR 7, 536, .inl ρ.1.2.1.1.1)), (q 8, .inl (cR 8, 67, .inl ρ.1.2.1.1.2)), (q 9, .inl (cR 9, 67, .inr (.inl (vp_updL ρ.1.2.1.2 ((65 : Int32).toNatClampNeg) j264_s0)))), (q 10, .inl (cR 10, 67, .inr (.inl ρ.1.2.2.1.1))), (q 11, .inl (cR 11, 67, .inl ρ.1.2.2.1.2)), (q 12, .inl (cR 12, 60, .inl ρ.2.1.1.1.1)), (q 13, .inl (cR 13, 60, .inl ρ.2.1.1.1.2)), (q 14, .inl (cR 14, 60, .inr (.inl ρ.2.1.1.2))), (q 15, .inl (cR 15, 60, .inr (.inl ρ.2.1.2.1.1))), (q 16, .inl (cR 16, 4, .inl ρ.2.1.2.1.2)), (q 17, .inl (cR 17, 4, .inl ρ.2.1.2.2)), (q 18, .inl (cR 18, 100, .inl ρ.2.2.1.1.2)), (q 19, .inl (cR 19, 5, .inl ρ.2.2.1.2)), (q 20, .inl (cR 20, 5, .inl ρ.2.2.2.1)), (q 21, .inl (cR 21, 5, .inl ρ.2.2.2.2))]) := hD
                    refine lv_aload_n hx hb d_R_apply_265 rfl (lv_at hl 1 rfl) ?_
                    refine va_get (D := D) (ci := 4) (v := .ref (q 8)) (C := R_R) (T := T_R) (N := 23) hx hb hts in_R hown hK hP (0) rfl rfl 7 (by decide) (hts _ k_435) (fun _ h9 => h9) rfl d_R_apply_266 ?_
                    refine lv_iload hx hb d_R_apply_269 (lv_at hl 0 rfl) ?_
                    refine lv_iconst (v := 1) hx hb d_R_apply_271 (by decide) ?_
                    refine va_zast hx hb hK hP hD hS 8 7 rfl rfl (show zin 65 67 by decide) d_R_apply_272 (fun H locs hP hD hS => ?_)
                    have hP : va_P D vwCl ([(q 0, .inr (4, [.ref (q 1), .ref (q 2), .ref (q 3), .ref (q 4), .ref (q 5), .ref (q 6), .ref (q 7), .ref (q 8), .ref (q 9), .ref (q 10), .ref (q 11), .int ρ.1.2.2.2, .ref (q 12), .ref (q 13), .ref (q 14), .ref (q 15), .ref (q 16), .ref (q 17), .int ρ.2.2.1.1.1, .ref (q 18), .ref (q 19), .ref (q 20), .ref (q 21)])), (q 1, .inl (cR 1, 67, .inr (.inl ρ.1.1.1.1.1))), (q 2, .inl (cR 2, 67, .inl ρ.1.1.1.1.2)), (q 3, .inl (cR 3, 67, .inl ρ.1.1.1.2)), (q 4, .inl (cR 4, 67, .inl ρ.1.1.2.1.1)), (q 5, .inl (cR 5, 67, .inr (.inl ρ.1.1.2.1.2))), (q 6, .inl (cR 6, 67, .inl ρ.1.1.2.2)), (q 7, .inl (cR 7, 536, .inl ρ.1.2.1.1.1)), (q 8, .inl (cR 8, 67, .inl (upd ρ.1.2.1.1.2 ((65 : Int32).toNatClampNeg) (vp_nar .boolean 1)))), (q 9, .inl (cR 9, 67, .inr (.inl (vp_updL ρ.1.2.1.2 ((65 : Int32).toNatClampNeg) j264_s0)))), (q 10, .inl (cR 10, 67, .inr (.inl ρ.1.2.2.1.1))), (q 11, .inl (cR 11, 67, .inl ρ.1.2.2.1.2)), (q 12, .inl (cR 12, 60, .inl ρ.2.1.1.1.1)), (q 13, .inl (cR 13, 60, .inl ρ.2.1.1.1.2)), (q 14, .inl (cR 14, 60, .inr (.inl ρ.2.1.1.2))), (q 15, .inl (cR 15, 60, .inr (.inl ρ.2.1.2.1.1))), (q 16, .inl (cR 16, 4, .inl ρ.2.1.2.1.2)), (q 17, .inl (cR 17, 4, .inl ρ.2.1.2.2)), (q 18, .inl (cR 18, 100, .inl ρ.2.2.1.1.2)), (q 19, .inl (cR 19, 5, .inl ρ.2.2.1.2)), (q 20, .inl (cR 20, 5, .inl ρ.2.2.2.1)), (q 21, .inl (cR 21, 5, .inl ρ.2.2.2.2))]) H := hP
                    have hD : va_D A ([(q 0, .inr (4, [.ref (q 1), .ref (q 2), .ref (q 3), .ref (q 4), .ref (q 5), .ref (q 6), .ref (q 7), .ref (q 8), .ref (q 9), .ref (q 10), .ref (q 11), .int ρ.1.2.2.2, .ref (q 12), .ref (q 13), .ref (q 14), .ref (q 15), .ref (q 16), .ref (q 17), .int ρ.2.2.1.1.1, .ref (q 18), .ref (q 19), .ref (q 20), .ref (q 21)])), (q 1, .inl (cR 1, 67, .inr (.inl ρ.1.1.1.1.1))), (q 2, .inl (cR 2, 67, .inl ρ.1.1.1.1.2)), (q 3, .inl (cR 3, 67, .inl ρ.1.1.1.2)), (q 4, .inl (cR 4, 67, .inl ρ.1.1.2.1.1)), (q 5, .inl (cR 5, 67, .inr (.inl ρ.1.1.2.1.2))), (q 6, .inl (cR 6, 67, .inl ρ.1.1.2.2)), (q 7, .inl (cR 7, 536, .inl ρ.1.2.1.1.1)), (q 8, .inl (cR 8, 67, .inl (upd ρ.1.2.1.1.2 ((65 : Int32).toNatClampNeg) (vp_nar .boolean 1)))), (q 9, .inl (cR 9, 67, .inr (.inl (vp_updL ρ.1.2.1.2 ((65 : Int32).toNatClampNeg) j264_s0)))), (q 10, .inl (cR 10, 67, .inr (.inl ρ.1.2.2.1.1))), (q 11, .inl (cR 11, 67, .inl ρ.1.2.2.1.2)), (q 12, .inl (cR 12, 60, .inl ρ.2.1.1.1.1)), (q 13, .inl (cR 13, 60, .inl ρ.2.1.1.1.2)), (q 14, .inl (cR 14, 60, .inr (.inl ρ.2.1.1.2))), (q 15, .inl (cR 15, 60, .inr (.inl ρ.2.1.2.1.1))), (q 16, .inl (cR 16, 4, .inl ρ.2.1.2.1.2)), (q 17, .inl (cR 17, 4, .inl ρ.2.1.2.2)), (q 18, .inl (cR 18, 100, .inl ρ.2.2.1.1.2)), (q 19, .inl (cR 19, 5, .inl ρ.2.2.1.2)), (q 20, .inl (cR 20, 5, .inl ρ.2.2.2.1)), (q 21, .inl (cR 21, 5, .inl ρ.2.2.2.2))]) := hD
                    refine lv_goto (tgt := 323) hx hb d_R_apply_273 (by decide) ?_
                    obtain rfl := Option.some.inj hres
                    exact W.vret hx hb hr (fun t ht hW => ⟨⟨(), rfl, trivial, by rw [ht]; exact hP, va_K.moved hW.alike hK, hD⟩, hS.F ht⟩) hS.2.2 d_R_apply_323
                  refine lv_if_eq (tgt := 263) hx hb d_R_apply_248 (by decide) (fun c_248 => ?_) (fun c_248 => ?_)
                  · have hres := zi_p c_248 hres
                    refine lv_lload_n hx hb d_R_apply_263 rfl (lv_at hl 3 rfl) ?_
                    exact hj264 a1 _ _ hP hD hS ls (lv_sub hl [0, 1, 2, 3] rfl) hres
                  · have hres := zi_n c_248 hres
                    refine lv_aload_n hx hb d_R_apply_251 rfl (lv_at hl 1 rfl) ?_
                    refine va_get (D := D) (ci := 4) (v := .ref (q 9)) (C := R_R) (T := T_R) (N := 23) hx hb hts in_R hown hK hP (0) rfl rfl 8 (by decide) (hts _ k_436) (fun _ h9 => h9) rfl d_R_apply_252 ?_
                    refine lv_iload hx hb d_R_apply_255 (lv_at hl 0 rfl) ?_
                    refine va_lald hx hb hK hP 9 8 rfl rfl (show zin 65 67 by decide) d_R_apply_257 ?_
                    refine lv_lload_n hx hb d_R_apply_258 rfl (lv_at hl 3 rfl) ?_
                    refine lv_ladd hx hb d_R_apply_259 ?_
                    refine lv_goto (tgt := 264) hx hb d_R_apply_260 (by decide) ?_
                    exact hj264 ((ρ.1.2.1.2 ((65 : Int32).toNatClampNeg)) + a1) _ _ hP hD hS ls (lv_sub hl [0, 1, 2, 3] rfl) hres
                · have hres := zi_n c_5_7 hres
                  by_cases c_5_8 : a0 = 8
                  · have hres := zi_p c_5_8 hres
                    refine lv_tableIn (off := 271) (tgt := 276) hx hb d_R_apply_5 (by rw [c_5_8]; decide) (by rw [c_5_8]; decide) (by rw [c_5_8]; decide) (by decide) ?_
                    refine lv_aload_n hx hb d_R_apply_276 rfl (lv_at hl 1 rfl) ?_
                    refine va_get (D := D) (ci := 4) (v := .ref (q 8)) (C := R_R) (T := T_R) (N := 23) hx hb hts in_R hown hK hP (0) rfl rfl 7 (by decide) (hts _ k_435) (fun _ h9 => h9) rfl d_R_apply_277 ?_
                    refine lv_iload hx hb d_R_apply_280 (lv_at hl 0 rfl) ?_
                    refine lv_iconst (v := 0) hx hb d_R_apply_282 (by decide) ?_
                    refine va_zast hx hb hK hP hD hS 8 7 rfl rfl (show zin 65 67 by decide) d_R_apply_283 (fun H locs hP hD hS => ?_)
                    have hP : va_P D vwCl ([(q 0, .inr (4, [.ref (q 1), .ref (q 2), .ref (q 3), .ref (q 4), .ref (q 5), .ref (q 6), .ref (q 7), .ref (q 8), .ref (q 9), .ref (q 10), .ref (q 11), .int ρ.1.2.2.2, .ref (q 12), .ref (q 13), .ref (q 14), .ref (q 15), .ref (q 16), .ref (q 17), .int ρ.2.2.1.1.1, .ref (q 18), .ref (q 19), .ref (q 20), .ref (q 21)])), (q 1, .inl (cR 1, 67, .inr (.inl ρ.1.1.1.1.1))), (q 2, .inl (cR 2, 67, .inl ρ.1.1.1.1.2)), (q 3, .inl (cR 3, 67, .inl ρ.1.1.1.2)), (q 4, .inl (cR 4, 67, .inl ρ.1.1.2.1.1)), (q 5, .inl (cR 5, 67, .inr (.inl ρ.1.1.2.1.2))), (q 6, .inl (cR 6, 67, .inl ρ.1.1.2.2)), (q 7, .inl (cR 7, 536, .inl ρ.1.2.1.1.1)), (q 8, .inl (cR 8, 67, .inl (upd ρ.1.2.1.1.2 ((65 : Int32).toNatClampNeg) (vp_nar .boolean 0)))), (q 9, .inl (cR 9, 67, .inr (.inl ρ.1.2.1.2))), (q 10, .inl (cR 10, 67, .inr (.inl ρ.1.2.2.1.1))), (q 11, .inl (cR 11, 67, .inl ρ.1.2.2.1.2)), (q 12, .inl (cR 12, 60, .inl ρ.2.1.1.1.1)), (q 13, .inl (cR 13, 60, .inl ρ.2.1.1.1.2)), (q 14, .inl (cR 14, 60, .inr (.inl ρ.2.1.1.2))), (q 15, .inl (cR 15, 60, .inr (.inl ρ.2.1.2.1.1))), (q 16, .inl (cR 16, 4, .inl ρ.2.1.2.1.2)), (q 17, .inl (cR 17, 4, .inl ρ.2.1.2.2)), (q 18, .inl (cR 18, 100, .inl ρ.2.2.1.1.2)), (q 19, .inl (cR 19, 5, .inl ρ.2.2.1.2)), (q 20, .inl (cR 20, 5, .inl ρ.2.2.2.1)), (q 21, .inl (cR 21, 5, .inl ρ.2.2.2.2))]) H := hP
                    have hD : va_D A ([(q 0, .inr (4, [.ref (q 1), .ref (q 2), .ref (q 3), .ref (q 4), .ref (q 5), .ref (q 6), .ref (q 7), .ref (q 8), .ref (q 9), .ref (q 10), .ref (q 11), .int ρ.1.2.2.2, .ref (q 12), .ref (q 13), .ref (q 14), .ref (q 15), .ref (q 16), .ref (q 17), .int ρ.2.2.1.1.1, .ref (q 18), .ref (q 19), .ref (q 20), .ref (q 21)])), (q 1, .inl (cR 1, 67, .inr (.inl ρ.1.1.1.1.1))), (q 2, .inl (cR 2, 67, .inl ρ.1.1.1.1.2)), (q 3, .inl (cR 3, 67, .inl ρ.1.1.1.2)), (q 4, .inl (cR 4, 67, .inl ρ.1.1.2.1.1)), (q 5, .inl (cR 5, 67, .inr (.inl ρ.1.1.2.1.2))), (q 6, .inl (cR 6, 67, .inl ρ.1.1.2.2)), (q 7, .inl (cR 7, 536, .inl ρ.1.2.1.1.1)), (q 8, .inl (cR 8, 67, .inl (upd ρ.1.2.1.1.2 ((65 : Int32).toNatClampNeg) (vp_nar .boolean 0)))), (q 9, .inl (cR 9, 67, .inr (.inl ρ.1.2.1.2))), (q 10, .inl (cR 10, 67, .inr (.inl ρ.1.2.2.1.1))), (q 11, .inl (cR 11, 67, .inl ρ.1.2.2.1.2)), (q 12, .inl (cR 12, 60, .inl ρ.2.1.1.1.1)), (q 13, .inl (cR 13, 60, .inl ρ.2.1.1.1.2)), (q 14, .inl (cR 14, 60, .inr (.inl ρ.2.1.1.2))), (q 15, .inl (cR 15, 60, .inr (.inl ρ.2.1.2.1.1))), (q 16, .inl (cR 16, 4, .inl ρ.2.1.2.1.2)), (q 17, .inl (cR 17, 4, .inl ρ.2.1.2.2)), (q 18, .inl (cR 18, 100, .inl ρ.2.2.1.1.2)), (q 19, .inl (cR 19, 5, .inl ρ.2.2.1.2)), (q 20, .inl (cR 20, 5, .inl ρ.2.2.2.1)), (q 21, .inl (cR 21, 5, .inl ρ.2.2.2.2))]) := hD
                    refine lv_aload_n hx hb d_R_apply_284 rfl (lv_at hl 1 rfl) ?_
                    refine va_get (D := D) (ci := 4) (v := .ref (q 9)) (C := R_R) (T := T_R) (N := 23) hx hb hts in_R hown hK hP (0) rfl rfl 8 (by decide) (hts _ k_436) (fun _ h9 => h9) rfl d_R_apply_285 ?_
                    refine lv_iload hx hb d_R_apply_288 (lv_at hl 0 rfl) ?_
                    refine lv_lconst (v := 0) hx hb d_R_apply_290 (by decide) ?_
                    refine va_last hx hb hK hP hD hS 9 8 rfl rfl (show zin 65 67 by decide) d_R_apply_291 (fun H locs hP hD hS => ?_)
                    have hP : va_P D vwCl ([(q 0, .inr (4, [.ref (q 1), .ref (q 2), .ref (q 3), .ref (q 4), .ref (q 5), .ref (q 6), .ref (q 7), .ref (q 8), .ref (q 9), .ref (q 10), .ref (q 11), .int ρ.1.2.2.2, .ref (q 12), .ref (q 13), .ref (q 14), .ref (q 15), .ref (q 16), .ref (q 17), .int ρ.2.2.1.1.1, .ref (q 18), .ref (q 19), .ref (q 20), .ref (q 21)])), (q 1, .inl (cR 1, 67, .inr (.inl ρ.1.1.1.1.1))), (q 2, .inl (cR 2, 67, .inl ρ.1.1.1.1.2)), (q 3, .inl (cR 3, 67, .inl ρ.1.1.1.2)), (q 4, .inl (cR 4, 67, .inl ρ.1.1.2.1.1)), (q 5, .inl (cR 5, 67, .inr (.inl ρ.1.1.2.1.2))), (q 6, .inl (cR 6, 67, .inl ρ.1.1.2.2)), (q 7, .inl (cR 7, 536, .inl ρ.1.2.1.1.1)), (q 8, .inl (cR 8, 67, .inl (upd ρ.1.2.1.1.2 ((65 : Int32).toNatClampNeg) (vp_nar .boolean 0)))), (q 9, .inl (cR 9, 67, .inr (.inl (vp_updL ρ.1.2.1.2 ((65 : Int32).toNatClampNeg) 0)))), (q 10, .inl (cR 10, 67, .inr (.inl ρ.1.2.2.1.1))), (q 11, .inl (cR 11, 67, .inl ρ.1.2.2.1.2)), (q 12, .inl (cR 12, 60, .inl ρ.2.1.1.1.1)), (q 13, .inl (cR 13, 60, .inl ρ.2.1.1.1.2)), (q 14, .inl (cR 14, 60, .inr (.inl ρ.2.1.1.2))), (q 15, .inl (cR 15, 60, .inr (.inl ρ.2.1.2.1.1))), (q 16, .inl (cR 16, 4, .inl ρ.2.1.2.1.2)), (q 17, .inl (cR 17, 4, .inl ρ.2.1.2.2)), (q 18, .inl (cR 18, 100, .inl ρ.2.2.1.1.2)), (q 19, .inl (cR 19, 5, .inl ρ.2.2.1.2)), (q 20, .inl (cR 20, 5, .inl ρ.2.2.2.1)), (q 21, .inl (cR 21, 5, .inl ρ.2.2.2.2))]) H := hP
                    have hD : va_D A ([(q 0, .inr (4, [.ref (q 1), .ref (q 2), .ref (q 3), .ref (q 4), .ref (q 5), .ref (q 6), .ref (q 7), .ref (q 8), .ref (q 9), .ref (q 10), .ref (q 11), .int ρ.1.2.2.2, .ref (q 12), .ref (q 13), .ref (q 14), .ref (q 15), .ref (q 16), .ref (q 17), .int ρ.2.2.1.1.1, .ref (q 18), .ref (q 19), .ref (q 20), .ref (q 21)])), (q 1, .inl (cR 1, 67, .inr (.inl ρ.1.1.1.1.1))), (q 2, .inl (cR 2, 67, .inl ρ.1.1.1.1.2)), (q 3, .inl (cR 3, 67, .inl ρ.1.1.1.2)), (q 4, .inl (cR 4, 67, .inl ρ.1.1.2.1.1)), (q 5, .inl (cR 5, 67, .inr (.inl ρ.1.1.2.1.2))), (q 6, .inl (cR 6, 67, .inl ρ.1.1.2.2)), (q 7, .inl (cR 7, 536, .inl ρ.1.2.1.1.1)), (q 8, .inl (cR 8, 67, .inl (upd ρ.1.2.1.1.2 ((65 : Int32).toNatClampNeg) (vp_nar .boolean 0)))), (q 9, .inl (cR 9, 67, .inr (.inl (vp_updL ρ.1.2.1.2 ((65 : Int32).toNatClampNeg) 0)))), (q 10, .inl (cR 10, 67, .inr (.inl ρ.1.2.2.1.1))), (q 11, .inl (cR 11, 67, .inl ρ.1.2.2.1.2)), (q 12, .inl (cR 12, 60, .inl ρ.2.1.1.1.1)), (q 13, .inl (cR 13, 60, .inl ρ.2.1.1.1.2)), (q 14, .inl (cR 14, 60, .inr (.inl ρ.2.1.1.2))), (q 15, .inl (cR 15, 60, .inr (.inl ρ.2.1.2.1.1))), (q 16, .inl (cR 16, 4, .inl ρ.2.1.2.1.2)), (q 17, .inl (cR 17, 4, .inl ρ.2.1.2.2)), (q 18, .inl (cR 18, 100, .inl ρ.2.2.1.1.2)), (q 19, .inl (cR 19, 5, .inl ρ.2.2.1.2)), (q 20, .inl (cR 20, 5, .inl ρ.2.2.2.1)), (q 21, .inl (cR 21, 5, .inl ρ.2.2.2.2))]) := hD
                    refine lv_goto (tgt := 323) hx hb d_R_apply_292 (by decide) ?_
                    obtain rfl := Option.some.inj hres
                    exact W.vret hx hb hr (fun t ht hW => ⟨⟨(), rfl, trivial, by rw [ht]; exact hP, va_K.moved hW.alike hK, hD⟩, hS.F ht⟩) hS.2.2 d_R_apply_323
                  · have hres := zi_n c_5_8 hres
                    by_cases c_5_9 : a0 = 9
                    · have hres := zi_p c_5_9 hres
                      refine lv_tableIn (off := 290) (tgt := 295) hx hb d_R_apply_5 (by rw [c_5_9]; decide) (by rw [c_5_9]; decide) (by rw [c_5_9]; decide) (by decide) ?_
                      refine lv_aload_n hx hb d_R_apply_295 rfl (lv_at hl 1 rfl) ?_
                      refine va_get (D := D) (ci := 4) (v := .ref (q 10)) (C := R_R) (T := T_R) (N := 23) hx hb hts in_R hown hK hP (0) rfl rfl 9 (by decide) (hts _ k_437) (fun _ h9 => h9) rfl d_R_apply_296 ?_
                      refine lv_iload hx hb d_R_apply_299 (lv_at hl 0 rfl) ?_
                      refine lv_aload_n hx hb d_R_apply_301 rfl (lv_at hl 1 rfl) ?_
                      refine va_get (D := D) (ci := 4) (v := .ref (q 10)) (C := R_R) (T := T_R) (N := 23) hx hb hts in_R hown hK hP (0) rfl rfl 9 (by decide) (hts _ k_437) (fun _ h9 => h9) rfl d_R_apply_302 ?_
                      refine lv_iload hx hb d_R_apply_305 (lv_at hl 0 rfl) ?_
                      refine va_lald hx hb hK hP 10 9 rfl rfl (show zin 65 67 by decide) d_R_apply_307 ?_
                      refine lv_lload_n hx hb d_R_apply_308 rfl (lv_at hl 3 rfl) ?_
                      refine lv_ladd hx hb d_R_apply_309 ?_
                      refine va_last hx hb hK hP hD hS 10 9 rfl rfl (show zin 65 67 by decide) d_R_apply_310 (fun H locs hP hD hS => ?_)
                      have hP : va_P D vwCl ([(q 0, .inr (4, [.ref (q 1), .ref (q 2), .ref (q 3), .ref (q 4), .ref (q 5), .ref (q 6), .ref (q 7), .ref (q 8), .ref (q 9), .ref (q 10), .ref (q 11), .int ρ.1.2.2.2, .ref (q 12), .ref (q 13), .ref (q 14), .ref (q 15), .ref (q 16), .ref (q 17), .int ρ.2.2.1.1.1, .ref (q 18), .ref (q 19), .ref (q 20), .ref (q 21)])), (q 1, .inl (cR 1, 67, .inr (.inl ρ.1.1.1.1.1))), (q 2, .inl (cR 2, 67, .inl ρ.1.1.1.1.2)), (q 3, .inl (cR 3, 67, .inl ρ.1.1.1.2)), (q 4, .inl (cR 4, 67, .inl ρ.1.1.2.1.1)), (q 5, .inl (cR 5, 67, .inr (.inl ρ.1.1.2.1.2))), (q 6, .inl (cR 6, 67, .inl ρ.1.1.2.2)), (q 7, .inl (cR 7, 536, .inl ρ.1.2.1.1.1)), (q 8, .inl (cR 8, 67, .inl ρ.1.2.1.1.2)), (q 9, .inl (cR 9, 67, .inr (.inl ρ.1.2.1.2))), (q 10, .inl (cR 10, 67, .inr (.inl (vp_updL ρ.1.2.2.1.1 ((65 : Int32).toNatClampNeg) ((ρ.1.2.2.1.1 ((65 : Int32).toNatClampNeg)) + a1))))), (q 11, .inl (cR 11, 67, .inl ρ.1.2.2.1.2)), (q 12, .inl (cR 12, 60, .inl ρ.2.1.1.1.1)), (q 13, .inl (cR 13, 60, .inl ρ.2.1.1.1.2)), (q 14, .inl (cR 14, 60, .inr (.inl ρ.2.1.1.2))), (q 15, .inl (cR 15, 60, .inr (.inl ρ.2.1.2.1.1))), (q 16, .inl (cR 16, 4, .inl ρ.2.1.2.1.2)), (q 17, .inl (cR 17, 4, .inl ρ.2.1.2.2)), (q 18, .inl (cR 18, 100, .inl ρ.2.2.1.1.2)), (q 19, .inl (cR 19, 5, .inl ρ.2.2.1.2)), (q 20, .inl (cR 20, 5, .inl ρ.2.2.2.1)), (q 21, .inl (cR 21, 5, .inl ρ.2.2.2.2))]) H := hP
                      have hD : va_D A ([(q 0, .inr (4, [.ref (q 1), .ref (q 2), .ref (q 3), .ref (q 4), .ref (q 5), .ref (q 6), .ref (q 7), .ref (q 8), .ref (q 9), .ref (q 10), .ref (q 11), .int ρ.1.2.2.2, .ref (q 12), .ref (q 13), .ref (q 14), .ref (q 15), .ref (q 16), .ref (q 17), .int ρ.2.2.1.1.1, .ref (q 18), .ref (q 19), .ref (q 20), .ref (q 21)])), (q 1, .inl (cR 1, 67, .inr (.inl ρ.1.1.1.1.1))), (q 2, .inl (cR 2, 67, .inl ρ.1.1.1.1.2)), (q 3, .inl (cR 3, 67, .inl ρ.1.1.1.2)), (q 4, .inl (cR 4, 67, .inl ρ.1.1.2.1.1)), (q 5, .inl (cR 5, 67, .inr (.inl ρ.1.1.2.1.2))), (q 6, .inl (cR 6, 67, .inl ρ.1.1.2.2)), (q 7, .inl (cR 7, 536, .inl ρ.1.2.1.1.1)), (q 8, .inl (cR 8, 67, .inl ρ.1.2.1.1.2)), (q 9, .inl (cR 9, 67, .inr (.inl ρ.1.2.1.2))), (q 10, .inl (cR 10, 67, .inr (.inl (vp_updL ρ.1.2.2.1.1 ((65 : Int32).toNatClampNeg) ((ρ.1.2.2.1.1 ((65 : Int32).toNatClampNeg)) + a1))))), (q 11, .inl (cR 11, 67, .inl ρ.1.2.2.1.2)), (q 12, .inl (cR 12, 60, .inl ρ.2.1.1.1.1)), (q 13, .inl (cR 13, 60, .inl ρ.2.1.1.1.2)), (q 14, .inl (cR 14, 60, .inr (.inl ρ.2.1.1.2))), (q 15, .inl (cR 15, 60, .inr (.inl ρ.2.1.2.1.1))), (q 16, .inl (cR 16, 4, .inl ρ.2.1.2.1.2)), (q 17, .inl (cR 17, 4, .inl ρ.2.1.2.2)), (q 18, .inl (cR 18, 100, .inl ρ.2.2.1.1.2)), (q 19, .inl (cR 19, 5, .inl ρ.2.2.1.2)), (q 20, .inl (cR 20, 5, .inl ρ.2.2.2.1)), (q 21, .inl (cR 21, 5, .inl ρ.2.2.2.2))]) := hD
                      refine lv_goto (tgt := 323) hx hb d_R_apply_311 (by decide) ?_
                      obtain rfl := Option.some.inj hres
                      exact W.vret hx hb hr (fun t ht hW => ⟨⟨(), rfl, trivial, by rw [ht]; exact hP, va_K.moved hW.alike hK, hD⟩, hS.F ht⟩) hS.2.2 d_R_apply_323
                    · have hres := zi_n c_5_9 hres
                      have e_5_0 := lv_neT c_5_0 (a := 0) (by decide)
                      have e_5_1 := lv_neT c_5_1 (a := 1) (by decide)
                      have e_5_2 := lv_neT c_5_2 (a := 2) (by decide)
                      have e_5_3 := lv_neT c_5_3 (a := 3) (by decide)
                      have e_5_4 := lv_neT c_5_4 (a := 4) (by decide)
                      have e_5_5 := lv_neT c_5_5 (a := 5) (by decide)
                      have e_5_6 := lv_neT c_5_6 (a := 6) (by decide)
                      have e_5_7 := lv_neT c_5_7 (a := 7) (by decide)
                      have e_5_8 := lv_neT c_5_8 (a := 8) (by decide)
                      have e_5_9 := lv_neT c_5_9 (a := 9) (by decide)
                      refine lv_tableOut (tgt := 314) hx hb d_R_apply_5 (by omega) (by decide) ?_
                      refine lv_aload_n hx hb d_R_apply_314 rfl (lv_at hl 1 rfl) ?_
                      refine va_get (D := D) (ci := 4) (v := .ref (q 11)) (C := R_R) (T := T_R) (N := 23) hx hb hts in_R hown hK hP (0) rfl rfl 10 (by decide) (hts _ k_438) (fun _ h9 => h9) rfl d_R_apply_315 ?_
                      refine lv_iload hx hb d_R_apply_318 (lv_at hl 0 rfl) ?_
                      refine lv_lload_n hx hb d_R_apply_320 rfl (lv_at hl 3 rfl) ?_
                      refine lv_l2i (v := a1.toInt32) hx hb d_R_apply_321 rfl ?_
                      refine va_iast hx hb hK hP hD hS 11 10 rfl rfl (show zin 65 67 by decide) d_R_apply_322 (fun H locs hP hD hS => ?_)
                      have hP : va_P D vwCl ([(q 0, .inr (4, [.ref (q 1), .ref (q 2), .ref (q 3), .ref (q 4), .ref (q 5), .ref (q 6), .ref (q 7), .ref (q 8), .ref (q 9), .ref (q 10), .ref (q 11), .int ρ.1.2.2.2, .ref (q 12), .ref (q 13), .ref (q 14), .ref (q 15), .ref (q 16), .ref (q 17), .int ρ.2.2.1.1.1, .ref (q 18), .ref (q 19), .ref (q 20), .ref (q 21)])), (q 1, .inl (cR 1, 67, .inr (.inl ρ.1.1.1.1.1))), (q 2, .inl (cR 2, 67, .inl ρ.1.1.1.1.2)), (q 3, .inl (cR 3, 67, .inl ρ.1.1.1.2)), (q 4, .inl (cR 4, 67, .inl ρ.1.1.2.1.1)), (q 5, .inl (cR 5, 67, .inr (.inl ρ.1.1.2.1.2))), (q 6, .inl (cR 6, 67, .inl ρ.1.1.2.2)), (q 7, .inl (cR 7, 536, .inl ρ.1.2.1.1.1)), (q 8, .inl (cR 8, 67, .inl ρ.1.2.1.1.2)), (q 9, .inl (cR 9, 67, .inr (.inl ρ.1.2.1.2))), (q 10, .inl (cR 10, 67, .inr (.inl ρ.1.2.2.1.1))), (q 11, .inl (cR 11, 67, .inl (upd ρ.1.2.2.1.2 ((65 : Int32).toNatClampNeg) a1.toInt32))), (q 12, .inl (cR 12, 60, .inl ρ.2.1.1.1.1)), (q 13, .inl (cR 13, 60, .inl ρ.2.1.1.1.2)), (q 14, .inl (cR 14, 60, .inr (.inl ρ.2.1.1.2))), (q 15, .inl (cR 15, 60, .inr (.inl ρ.2.1.2.1.1))), (q 16, .inl (cR 16, 4, .inl ρ.2.1.2.1.2)), (q 17, .inl (cR 17, 4, .inl ρ.2.1.2.2)), (q 18, .inl (cR 18, 100, .inl ρ.2.2.1.1.2)), (q 19, .inl (cR 19, 5, .inl ρ.2.2.1.2)), (q 20, .inl (cR 20, 5, .inl ρ.2.2.2.1)), (q 21, .inl (cR 21, 5, .inl ρ.2.2.2.2))]) H := hP
                      have hD : va_D A ([(q 0, .inr (4, [.ref (q 1), .ref (q 2), .ref (q 3), .ref (q 4), .ref (q 5), .ref (q 6), .ref (q 7), .ref (q 8), .ref (q 9), .ref (q 10), .ref (q 11), .int ρ.1.2.2.2, .ref (q 12), .ref (q 13), .ref (q 14), .ref (q 15), .ref (q 16), .ref (q 17), .int ρ.2.2.1.1.1, .ref (q 18), .ref (q 19), .ref (q 20), .ref (q 21)])), (q 1, .inl (cR 1, 67, .inr (.inl ρ.1.1.1.1.1))), (q 2, .inl (cR 2, 67, .inl ρ.1.1.1.1.2)), (q 3, .inl (cR 3, 67, .inl ρ.1.1.1.2)), (q 4, .inl (cR 4, 67, .inl ρ.1.1.2.1.1)), (q 5, .inl (cR 5, 67, .inr (.inl ρ.1.1.2.1.2))), (q 6, .inl (cR 6, 67, .inl ρ.1.1.2.2)), (q 7, .inl (cR 7, 536, .inl ρ.1.2.1.1.1)), (q 8, .inl (cR 8, 67, .inl ρ.1.2.1.1.2)), (q 9, .inl (cR 9, 67, .inr (.inl ρ.1.2.1.2))), (q 10, .inl (cR 10, 67, .inr (.inl ρ.1.2.2.1.1))), (q 11, .inl (cR 11, 67, .inl (upd ρ.1.2.2.1.2 ((65 : Int32).toNatClampNeg) a1.toInt32))), (q 12, .inl (cR 12, 60, .inl ρ.2.1.1.1.1)), (q 13, .inl (cR 13, 60, .inl ρ.2.1.1.1.2)), (q 14, .inl (cR 14, 60, .inr (.inl ρ.2.1.1.2))), (q 15, .inl (cR 15, 60, .inr (.inl ρ.2.1.2.1.1))), (q 16, .inl (cR 16, 4, .inl ρ.2.1.2.1.2)), (q 17, .inl (cR 17, 4, .inl ρ.2.1.2.2)), (q 18, .inl (cR 18, 100, .inl ρ.2.2.1.1.2)), (q 19, .inl (cR 19, 5, .inl ρ.2.2.1.2)), (q 20, .inl (cR 20, 5, .inl ρ.2.2.2.1)), (q 21, .inl (cR 21, 5, .inl ρ.2.2.2.2))]) := hD
                      obtain rfl := Option.some.inj hres
                      exact W.vret hx hb hr (fun t ht hW => ⟨⟨(), rfl, trivial, by rw [ht]; exact hP, va_K.moved hW.alike hK, hD⟩, hS.F ht⟩) hS.2.2 d_R_apply_323
def f_R_chosen (a0 : Int32) (a1 : Int32) (a2 : Int32) : Option (Int32) :=
  if a1 = a0 then
    some a2
  else
    some a1
set_option maxHeartbeats 4000000 in
set_option maxRecDepth 100000 in
theorem c_R_chosen (l : Launch) (D : va_G) (tys : List (ClassId × FieldType)) (a0 : Int32) (a1 : Int32) (a2 : Int32) (v : Int32) (hres : f_R_chosen a0 a1 a2 = some v) : Met l y_R_chosen w_R_chosen ({ frames := 0, cells := 0, slots := 0, locals := 0 } : Room) (va_Pc ([.int a0, .int a1, .int a2]) (zro D tys ([]))) (vp_Si (fun r : Int32 => r = v)) 0 0 (fun _ => False) := by
  refine Met.ofW (cc := b_R_chosen) (maxL := 3) (ret := (some .int)) (by decide) rfl ?_
  intro p e s m args below meth c s₁ B hml hv
  obtain ⟨rfl, hP, hK, hN⟩ := hv
  have hx := B.exec
  have hb := B.bytes
  have hr := B.returns
  have hts : ∀ w ∈ zt, w.before ([.int a0, .int a1, .int a2].toArray) s = true := fun w h => atoms_spec (ws := w_R_chosen) B.pre w (List.mem_cons_of_mem _ h)
  have hown : s.vm.findClass R_R = some m.cls := findClass_of_methodNamed B.named
  have hlocks := B.notSynchronized
  have hl := lv_entry ([.int a0, .int a1, .int a2]) (n := 3) (Nat.le_of_ble_eq_true rfl)
  rw [lg_entry_eq]
  generalize (lg_sl ([.int a0, .int a1, .int a2]) ++ List.replicate (3 - (lg_sl ([.int a0, .int a1, .int a2])).length) Slot.unset).toArray = ls at hl ⊢
  have hl : lv_has ls 3 [(0, .int a0), (1, .int a1), (2, .int a2)] := hl
  unfold f_R_chosen at hres
  refine lv_iload_n hx hb d_R_chosen_0 rfl (lv_at hl 1 rfl) ?_
  refine lv_iload_n hx hb d_R_chosen_1 rfl (lv_at hl 0 rfl) ?_
  refine lv_icmp_ne (tgt := 9) hx hb d_R_chosen_2 (by decide) (fun c_2 => ?_) (fun c_2 => ?_)
  · have hres := zi_n c_2 hres
    refine lv_iload_n hx hb d_R_chosen_9 rfl (lv_at hl 1 rfl) ?_
    obtain rfl := Option.some.inj hres
    exact W.iret (v := a1) hx hb hr (fun t ht hW => ⟨_, rfl, rfl, ht⟩) (fun _ hq => by cases hq) d_R_chosen_10
  · have hres := zi_p c_2 hres
    refine lv_iload_n hx hb d_R_chosen_5 rfl (lv_at hl 2 rfl) ?_
    refine lv_goto (tgt := 10) hx hb d_R_chosen_6 (by decide) ?_
    obtain rfl := Option.some.inj hres
    exact W.iret (v := a2) hx hb hr (fun t ht hW => ⟨_, rfl, rfl, ht⟩) (fun _ hq => by cases hq) d_R_chosen_10
def f_R_commits (ρ : RSt) : Option (Int32) :=
  some ρ.1.2.2.2
set_option maxHeartbeats 4000000 in
set_option maxRecDepth 100000 in
theorem c_R_commits (l : Launch) (D : va_G) (tys : List (ClassId × FieldType)) (q : Nat → Nat) (cR : Nat → ClassId) (ρ : RSt) (v : Int32) (hres : f_R_commits ρ = some v) : Met l y_R_commits w_R_commits ({ frames := 0, cells := 0, slots := 0, locals := 0 } : Room) (va_Pc ([.ref (q 0)]) (zro D (zRt cR) (zR q cR ρ))) (vp_Si (fun r : Int32 => r = v)) 0 0 (fun _ => False) := by
  refine Met.ofW (cc := b_R_commits) (maxL := 1) (ret := (some .int)) (by decide) rfl ?_
  intro p e s m args below meth c s₁ B hml hv
  obtain ⟨rfl, hP, hK, hN⟩ := hv
  have hx := B.exec
  have hb := B.bytes
  have hr := B.returns
  have hts : ∀ w ∈ zt, w.before ([.ref (q 0)].toArray) s = true := fun w h => atoms_spec (ws := w_R_commits) B.pre w (List.mem_cons_of_mem _ h)
  have hown : s.vm.findClass R_R = some m.cls := findClass_of_methodNamed B.named
  have hlocks := B.notSynchronized
  have hl := lv_entry ([.ref (q 0)]) (n := 1) (Nat.le_of_ble_eq_true rfl)
  rw [lg_entry_eq]
  generalize (lg_sl ([.ref (q 0)]) ++ List.replicate (1 - (lg_sl ([.ref (q 0)])).length) Slot.unset).toArray = ls at hl ⊢
  have hl : lv_has ls 1 [(0, .ref (q 0))] := hl
  unfold f_R_commits at hres
  refine lv_aload_n hx hb d_R_commits_0 rfl (lv_at hl 0 rfl) ?_
  refine va_get (D := D) (ci := 4) (v := .int ρ.1.2.2.2) (C := R_R) (T := T_R) (N := 23) hx hb hts in_R hown hK hP (0) rfl rfl 11 (by decide) (hts _ k_439) (fun _ h9 => h9) rfl d_R_commits_1 ?_
  obtain rfl := Option.some.inj hres
  exact W.iret (v := ρ.1.2.2.2) hx hb hr (fun t ht hW => ⟨_, rfl, rfl, ht⟩) (fun _ hq => by cases hq) d_R_commits_4
abbrev qd_R_copy (D : va_G) (tys : List (ClassId × FieldType)) (q : Nat → Nat) (cR : Nat → ClassId) (ρ : RSt) (a0 : Int32) (a1 : Int32) (v : RSt) (A : Nat → Prop) : Array Value → State → Outcome → State → Prop := va_Qv (fun _ : Unit => True) (fun _ t => zwd D (zRt cR) (A) (zR q cR v) t) (A)

def L_R_copy_74 (a0 : Int32) (a1 : Int32) : Nat → Int32 → RSt → Option (Int32 × RSt)
  | 0, _, _ => none
  | n + 1, x74_3, g74 =>
    if 8 ≤ x74_3 then
      some (x74_3, g74)
    else
      if zin ((8 * a0) + x74_3) 536 then
        if zin ((8 * a1) + x74_3) 536 then
          L_R_copy_74 a0 a1 n (x74_3 + 1) (((((g74.1.1.1.1.1, g74.1.1.1.1.2), g74.1.1.1.2), ((g74.1.1.2.1.1, g74.1.1.2.1.2), g74.1.1.2.2)), ((((upd g74.1.2.1.1.1 ((8 * a1) + x74_3).toNatClampNeg (g74.1.2.1.1.1 ((8 * a0) + x74_3).toNatClampNeg)), g74.1.2.1.1.2), g74.1.2.1.2), ((g74.1.2.2.1.1, g74.1.2.2.1.2), g74.1.2.2.2))), ((((g74.2.1.1.1.1, g74.2.1.1.1.2), g74.2.1.1.2), ((g74.2.1.2.1.1, g74.2.1.2.1.2), g74.2.1.2.2)), (((g74.2.2.1.1.1, g74.2.2.1.1.2), g74.2.2.1.2), (g74.2.2.2.1, g74.2.2.2.2))))
        else
          none
      else
        none
def f_R_copy (ρ : RSt) (a0 : Int32) (a1 : Int32) : Option (RSt) :=
  if zin a0 67 then
    if zin a1 67 then
      if zin a0 67 then
        if zin a1 67 then
          if zin a0 67 then
            if zin a1 67 then
              if zin a0 67 then
                if zin a1 67 then
                  if zin a0 67 then
                    if zin a1 67 then
                      if zin a0 67 then
                        if zin a1 67 then
                          Option.bind (L_R_copy_74 a0 a1 zfuel 0 ((((((vp_updL ρ.1.1.1.1.1 a1.toNatClampNeg (ρ.1.1.1.1.1 a0.toNatClampNeg)), (upd ρ.1.1.1.1.2 a1.toNatClampNeg (ρ.1.1.1.1.2 a0.toNatClampNeg))), (upd ρ.1.1.1.2 a1.toNatClampNeg (ρ.1.1.1.2 a0.toNatClampNeg))), (((upd ρ.1.1.2.1.1 a1.toNatClampNeg (ρ.1.1.2.1.1 a0.toNatClampNeg)), (vp_updL ρ.1.1.2.1.2 a1.toNatClampNeg (ρ.1.1.2.1.2 a0.toNatClampNeg))), (upd ρ.1.1.2.2 a1.toNatClampNeg (ρ.1.1.2.2 a0.toNatClampNeg)))), (((ρ.1.2.1.1.1, ρ.1.2.1.1.2), ρ.1.2.1.2), ((ρ.1.2.2.1.1, ρ.1.2.2.1.2), ρ.1.2.2.2))), ((((ρ.2.1.1.1.1, ρ.2.1.1.1.2), ρ.2.1.1.2), ((ρ.2.1.2.1.1, ρ.2.1.2.1.2), ρ.2.1.2.2)), (((ρ.2.2.1.1.1, ρ.2.2.1.1.2), ρ.2.2.1.2), (ρ.2.2.2.1, ρ.2.2.2.2))))) (fun w74 =>
                            if zin a0 67 then
                              if zin a1 67 then
                                if zin a0 67 then
                                  if zin a1 67 then
                                    if zin a0 67 then
                                      if zin a1 67 then
                                        if zin a0 67 then
                                          if zin a1 67 then
                                            some (((((w74.2.1.1.1.1.1, w74.2.1.1.1.1.2), w74.2.1.1.1.2), ((w74.2.1.1.2.1.1, w74.2.1.1.2.1.2), w74.2.1.1.2.2)), (((w74.2.1.2.1.1.1, (upd w74.2.1.2.1.1.2 a1.toNatClampNeg (vp_nar .boolean (w74.2.1.2.1.1.2 a0.toNatClampNeg)))), (vp_updL w74.2.1.2.1.2 a1.toNatClampNeg (w74.2.1.2.1.2 a0.toNatClampNeg))), (((vp_updL w74.2.1.2.2.1.1 a1.toNatClampNeg (w74.2.1.2.2.1.1 a0.toNatClampNeg)), (upd w74.2.1.2.2.1.2 a1.toNatClampNeg (w74.2.1.2.2.1.2 a0.toNatClampNeg))), w74.2.1.2.2.2))), ((((w74.2.2.1.1.1.1, w74.2.2.1.1.1.2), w74.2.2.1.1.2), ((w74.2.2.1.2.1.1, w74.2.2.1.2.1.2), w74.2.2.1.2.2)), (((w74.2.2.2.1.1.1, w74.2.2.2.1.1.2), w74.2.2.2.1.2), (w74.2.2.2.2.1, w74.2.2.2.2.2))))
                                          else
                                            none
                                        else
                                          none
                                      else
                                        none
                                    else
                                      none
                                  else
                                    none
                                else
                                  none
                              else
                                none
                            else
                              none)
                        else
                          none
                      else
                        none
                    else
                      none
                  else
                    none
                else
                  none
              else
                none
            else
              none
          else
            none
        else
          none
      else
        none
    else
      none
  else
    none
set_option maxHeartbeats 4000000 in
set_option maxRecDepth 100000 in
theorem c_R_copy (l : Launch) (D : va_G) (tys : List (ClassId × FieldType)) (sz : Nat) (q : Nat → Nat) (cR : Nat → ClassId) (ρ : RSt) (a0 : Int32) (a1 : Int32) (v : RSt) (hres : f_R_copy ρ a0 a1 = some v) : Met l y_R_copy w_R_copy ({ frames := 0, cells := 0, slots := 0, locals := 0 } : Room) (va_Pc ([.ref (q 0), .int a0, .int a1]) (zrw D (zRt cR) sz (zR q cR ρ))) (qd_R_copy D tys q cR ρ a0 a1 v (va_A (zR q cR ρ) sz)) 0 0 (va_A (zR q cR ρ) sz) := by
  refine Met.ofW (cc := b_R_copy) (maxL := 4) (ret := none) (by decide) rfl ?_
  intro p e s m args below meth c s₁ B hml hv
  obtain ⟨rfl, hsz, hP, hK, hD0, hN⟩ := hv
  have hx := B.exec
  have hb := B.bytes
  have hr := B.returns
  have hts : ∀ w ∈ zt, w.before ([.ref (q 0), .int a0, .int a1].toArray) s = true := fun w h => atoms_spec (ws := w_R_copy) B.pre w (List.mem_cons_of_mem _ h)
  have hown : s.vm.findClass R_R = some m.cls := findClass_of_methodNamed B.named
  have hlocks := B.notSynchronized
  subst hsz
  have hD := hD0.self (sz := s.heap.size)
  generalize hAe : va_A (zR q cR ρ) s.heap.size = A at hD ⊢
  have hA : ∀ q : Nat, s.heap.size ≤ q → A q := fun q h => by rw [← hAe]; exact Or.inr h
  have hS : va_S A s.heap s.heap [] := va_S.rf
  have hP : va_P D vwCl (zR q cR ρ) s.heap := hP
  have hD : va_D A (zR q cR ρ) := hD
  have hl := lv_entry ([.ref (q 0), .int a0, .int a1]) (n := 4) (Nat.le_of_ble_eq_true rfl)
  rw [lg_entry_eq]
  generalize (lg_sl ([.ref (q 0), .int a0, .int a1]) ++ List.replicate (4 - (lg_sl ([.ref (q 0), .int a0, .int a1])).length) Slot.unset).toArray = ls at hl ⊢
  have hl : lv_has ls 4 [(0, .ref (q 0)), (1, .int a0), (2, .int a1)] := hl
  unfold f_R_copy at hres
  refine lv_aload_n hx hb d_R_copy_0 rfl (lv_at hl 0 rfl) ?_
  refine va_get (D := D) (ci := 4) (v := .ref (q 1)) (C := R_R) (T := T_R) (N := 23) hx hb hts in_R hown hK hP (0) rfl rfl 0 (by decide) (hts _ k_428) (fun _ h9 => h9) rfl d_R_copy_1 ?_
  refine lv_iload_n hx hb d_R_copy_4 rfl (lv_at hl 2 rfl) ?_
  refine lv_aload_n hx hb d_R_copy_5 rfl (lv_at hl 0 rfl) ?_
  refine va_get (D := D) (ci := 4) (v := .ref (q 1)) (C := R_R) (T := T_R) (N := 23) hx hb hts in_R hown hK hP (0) rfl rfl 0 (by decide) (hts _ k_428) (fun _ h9 => h9) rfl d_R_copy_6 ?_
  refine lv_iload_n hx hb d_R_copy_9 rfl (lv_at hl 1 rfl) ?_
  by_cases ck_10 : zin a0 67
  · have hres := zi_p ck_10 hres
    refine va_lald hx hb hK hP 1 0 rfl rfl ck_10 d_R_copy_10 ?_
    by_cases ck_11 : zin a1 67
    · have hres := zi_p ck_11 hres
      refine va_last hx hb hK hP hD hS 1 0 rfl rfl ck_11 d_R_copy_11 (fun H locs hP hD hS => ?_)
      have hP : va_P D vwCl ([(q 0, .inr (4, [.ref (q 1), .ref (q 2), .ref (q 3), .ref (q 4), .ref (q 5), .ref (q 6), .ref (q 7), .ref (q 8), .ref (q 9), .ref (q 10), .ref (q 11), .int ρ.1.2.2.2, .ref (q 12), .ref (q 13), .ref (q 14), .ref (q 15), .ref (q 16), .ref (q 17), .int ρ.2.2.1.1.1, .ref (q 18), .ref (q 19), .ref (q 20), .ref (q 21)])), (q 1, .inl (cR 1, 67, .inr (.inl (vp_updL ρ.1.1.1.1.1 a1.toNatClampNeg (ρ.1.1.1.1.1 a0.toNatClampNeg))))), (q 2, .inl (cR 2, 67, .inl ρ.1.1.1.1.2)), (q 3, .inl (cR 3, 67, .inl ρ.1.1.1.2)), (q 4, .inl (cR 4, 67, .inl ρ.1.1.2.1.1)), (q 5, .inl (cR 5, 67, .inr (.inl ρ.1.1.2.1.2))), (q 6, .inl (cR 6, 67, .inl ρ.1.1.2.2)), (q 7, .inl (cR 7, 536, .inl ρ.1.2.1.1.1)), (q 8, .inl (cR 8, 67, .inl ρ.1.2.1.1.2)), (q 9, .inl (cR 9, 67, .inr (.inl ρ.1.2.1.2))), (q 10, .inl (cR 10, 67, .inr (.inl ρ.1.2.2.1.1))), (q 11, .inl (cR 11, 67, .inl ρ.1.2.2.1.2)), (q 12, .inl (cR 12, 60, .inl ρ.2.1.1.1.1)), (q 13, .inl (cR 13, 60, .inl ρ.2.1.1.1.2)), (q 14, .inl (cR 14, 60, .inr (.inl ρ.2.1.1.2))), (q 15, .inl (cR 15, 60, .inr (.inl ρ.2.1.2.1.1))), (q 16, .inl (cR 16, 4, .inl ρ.2.1.2.1.2)), (q 17, .inl (cR 17, 4, .inl ρ.2.1.2.2)), (q 18, .inl (cR 18, 100, .inl ρ.2.2.1.1.2)), (q 19, .inl (cR 19, 5, .inl ρ.2.2.1.2)), (q 20, .inl (cR 20, 5, .inl ρ.2.2.2.1)), (q 21, .inl (cR 21, 5, .inl ρ.2.2.2.2))]) H := hP
      have hD : va_D A ([(q 0, .inr (4, [.ref (q 1), .ref (q 2), .ref (q 3), .ref (q 4), .ref (q 5), .ref (q 6), .ref (q 7), .ref (q 8), .ref (q 9), .ref (q 10), .ref (q 11), .int ρ.1.2.2.2, .ref (q 12), .ref (q 13), .ref (q 14), .ref (q 15), .ref (q 16), .ref (q 17), .int ρ.2.2.1.1.1, .ref (q 18), .ref (q 19), .ref (q 20), .ref (q 21)])), (q 1, .inl (cR 1, 67, .inr (.inl (vp_updL ρ.1.1.1.1.1 a1.toNatClampNeg (ρ.1.1.1.1.1 a0.toNatClampNeg))))), (q 2, .inl (cR 2, 67, .inl ρ.1.1.1.1.2)), (q 3, .inl (cR 3, 67, .inl ρ.1.1.1.2)), (q 4, .inl (cR 4, 67, .inl ρ.1.1.2.1.1)), (q 5, .inl (cR 5, 67, .inr (.inl ρ.1.1.2.1.2))), (q 6, .inl (cR 6, 67, .inl ρ.1.1.2.2)), (q 7, .inl (cR 7, 536, .inl ρ.1.2.1.1.1)), (q 8, .inl (cR 8, 67, .inl ρ.1.2.1.1.2)), (q 9, .inl (cR 9, 67, .inr (.inl ρ.1.2.1.2))), (q 10, .inl (cR 10, 67, .inr (.inl ρ.1.2.2.1.1))), (q 11, .inl (cR 11, 67, .inl ρ.1.2.2.1.2)), (q 12, .inl (cR 12, 60, .inl ρ.2.1.1.1.1)), (q 13, .inl (cR 13, 60, .inl ρ.2.1.1.1.2)), (q 14, .inl (cR 14, 60, .inr (.inl ρ.2.1.1.2))), (q 15, .inl (cR 15, 60, .inr (.inl ρ.2.1.2.1.1))), (q 16, .inl (cR 16, 4, .inl ρ.2.1.2.1.2)), (q 17, .inl (cR 17, 4, .inl ρ.2.1.2.2)), (q 18, .inl (cR 18, 100, .inl ρ.2.2.1.1.2)), (q 19, .inl (cR 19, 5, .inl ρ.2.2.1.2)), (q 20, .inl (cR 20, 5, .inl ρ.2.2.2.1)), (q 21, .inl (cR 21, 5, .inl ρ.2.2.2.2))]) := hD
      refine lv_aload_n hx hb d_R_copy_12 rfl (lv_at hl 0 rfl) ?_
      refine va_get (D := D) (ci := 4) (v := .ref (q 2)) (C := R_R) (T := T_R) (N := 23) hx hb hts in_R hown hK hP (0) rfl rfl 1 (by decide) (hts _ k_429) (fun _ h9 => h9) rfl d_R_copy_13 ?_
      refine lv_iload_n hx hb d_R_copy_16 rfl (lv_at hl 2 rfl) ?_
      refine lv_aload_n hx hb d_R_copy_17 rfl (lv_at hl 0 rfl) ?_
      refine va_get (D := D) (ci := 4) (v := .ref (q 2)) (C := R_R) (T := T_R) (N := 23) hx hb hts in_R hown hK hP (0) rfl rfl 1 (by decide) (hts _ k_429) (fun _ h9 => h9) rfl d_R_copy_18 ?_
      refine lv_iload_n hx hb d_R_copy_21 rfl (lv_at hl 1 rfl) ?_
      by_cases ck_22 : zin a0 67
      · have hres := zi_p ck_22 hres
        refine va_iald hx hb hK hP 2 1 rfl rfl ck_22 d_R_copy_22 ?_
        by_cases ck_23 : zin a1 67
        · have hres := zi_p ck_23 hres
          refine va_iast hx hb hK hP hD hS 2 1 rfl rfl ck_23 d_R_copy_23 (fun H locs hP hD hS => ?_)
          have hP : va_P D vwCl ([(q 0, .inr (4, [.ref (q 1), .ref (q 2), .ref (q 3), .ref (q 4), .ref (q 5), .ref (q 6), .ref (q 7), .ref (q 8), .ref (q 9), .ref (q 10), .ref (q 11), .int ρ.1.2.2.2, .ref (q 12), .ref (q 13), .ref (q 14), .ref (q 15), .ref (q 16), .ref (q 17), .int ρ.2.2.1.1.1, .ref (q 18), .ref (q 19), .ref (q 20), .ref (q 21)])), (q 1, .inl (cR 1, 67, .inr (.inl (vp_updL ρ.1.1.1.1.1 a1.toNatClampNeg (ρ.1.1.1.1.1 a0.toNatClampNeg))))), (q 2, .inl (cR 2, 67, .inl (upd ρ.1.1.1.1.2 a1.toNatClampNeg (ρ.1.1.1.1.2 a0.toNatClampNeg)))), (q 3, .inl (cR 3, 67, .inl ρ.1.1.1.2)), (q 4, .inl (cR 4, 67, .inl ρ.1.1.2.1.1)), (q 5, .inl (cR 5, 67, .inr (.inl ρ.1.1.2.1.2))), (q 6, .inl (cR 6, 67, .inl ρ.1.1.2.2)), (q 7, .inl (cR 7, 536, .inl ρ.1.2.1.1.1)), (q 8, .inl (cR 8, 67, .inl ρ.1.2.1.1.2)), (q 9, .inl (cR 9, 67, .inr (.inl ρ.1.2.1.2))), (q 10, .inl (cR 10, 67, .inr (.inl ρ.1.2.2.1.1))), (q 11, .inl (cR 11, 67, .inl ρ.1.2.2.1.2)), (q 12, .inl (cR 12, 60, .inl ρ.2.1.1.1.1)), (q 13, .inl (cR 13, 60, .inl ρ.2.1.1.1.2)), (q 14, .inl (cR 14, 60, .inr (.inl ρ.2.1.1.2))), (q 15, .inl (cR 15, 60, .inr (.inl ρ.2.1.2.1.1))), (q 16, .inl (cR 16, 4, .inl ρ.2.1.2.1.2)), (q 17, .inl (cR 17, 4, .inl ρ.2.1.2.2)), (q 18, .inl (cR 18, 100, .inl ρ.2.2.1.1.2)), (q 19, .inl (cR 19, 5, .inl ρ.2.2.1.2)), (q 20, .inl (cR 20, 5, .inl ρ.2.2.2.1)), (q 21, .inl (cR 21, 5, .inl ρ.2.2.2.2))]) H := hP
          have hD : va_D A ([(q 0, .inr (4, [.ref (q 1), .ref (q 2), .ref (q 3), .ref (q 4), .ref (q 5), .ref (q 6), .ref (q 7), .ref (q 8), .ref (q 9), .ref (q 10), .ref (q 11), .int ρ.1.2.2.2, .ref (q 12), .ref (q 13), .ref (q 14), .ref (q 15), .ref (q 16), .ref (q 17), .int ρ.2.2.1.1.1, .ref (q 18), .ref (q 19), .ref (q 20), .ref (q 21)])), (q 1, .inl (cR 1, 67, .inr (.inl (vp_updL ρ.1.1.1.1.1 a1.toNatClampNeg (ρ.1.1.1.1.1 a0.toNatClampNeg))))), (q 2, .inl (cR 2, 67, .inl (upd ρ.1.1.1.1.2 a1.toNatClampNeg (ρ.1.1.1.1.2 a0.toNatClampNeg)))), (q 3, .inl (cR 3, 67, .inl ρ.1.1.1.2)), (q 4, .inl (cR 4, 67, .inl ρ.1.1.2.1.1)), (q 5, .inl (cR 5, 67, .inr (.inl ρ.1.1.2.1.2))), (q 6, .inl (cR 6, 67, .inl ρ.1.1.2.2)), (q 7, .inl (cR 7, 536, .inl ρ.1.2.1.1.1)), (q 8, .inl (cR 8, 67, .inl ρ.1.2.1.1.2)), (q 9, .inl (cR 9, 67, .inr (.inl ρ.1.2.1.2))), (q 10, .inl (cR 10, 67, .inr (.inl ρ.1.2.2.1.1))), (q 11, .inl (cR 11, 67, .inl ρ.1.2.2.1.2)), (q 12, .inl (cR 12, 60, .inl ρ.2.1.1.1.1)), (q 13, .inl (cR 13, 60, .inl ρ.2.1.1.1.2)), (q 14, .inl (cR 14, 60, .inr (.inl ρ.2.1.1.2))), (q 15, .inl (cR 15, 60, .inr (.inl ρ.2.1.2.1.1))), (q 16, .inl (cR 16, 4, .inl ρ.2.1.2.1.2)), (q 17, .inl (cR 17, 4, .inl ρ.2.1.2.2)), (q 18, .inl (cR 18, 100, .inl ρ.2.2.1.1.2)), (q 19, .inl (cR 19, 5, .inl ρ.2.2.1.2)), (q 20, .inl (cR 20, 5, .inl ρ.2.2.2.1)), (q 21, .inl (cR 21, 5, .inl ρ.2.2.2.2))]) := hD
          refine lv_aload_n hx hb d_R_copy_24 rfl (lv_at hl 0 rfl) ?_
          refine va_get (D := D) (ci := 4) (v := .ref (q 3)) (C := R_R) (T := T_R) (N := 23) hx hb hts in_R hown hK hP (0) rfl rfl 2 (by decide) (hts _ k_430) (fun _ h9 => h9) rfl d_R_copy_25 ?_
          refine lv_iload_n hx hb d_R_copy_28 rfl (lv_at hl 2 rfl) ?_
          refine lv_aload_n hx hb d_R_copy_29 rfl (lv_at hl 0 rfl) ?_
          refine va_get (D := D) (ci := 4) (v := .ref (q 3)) (C := R_R) (T := T_R) (N := 23) hx hb hts in_R hown hK hP (0) rfl rfl 2 (by decide) (hts _ k_430) (fun _ h9 => h9) rfl d_R_copy_30 ?_
          refine lv_iload_n hx hb d_R_copy_33 rfl (lv_at hl 1 rfl) ?_
          by_cases ck_34 : zin a0 67
          · have hres := zi_p ck_34 hres
            refine va_iald hx hb hK hP 3 2 rfl rfl ck_34 d_R_copy_34 ?_
            by_cases ck_35 : zin a1 67
            · have hres := zi_p ck_35 hres
              refine va_iast hx hb hK hP hD hS 3 2 rfl rfl ck_35 d_R_copy_35 (fun H locs hP hD hS => ?_)
              have hP : va_P D vwCl ([(q 0, .inr (4, [.ref (q 1), .ref (q 2), .ref (q 3), .ref (q 4), .ref (q 5), .ref (q 6), .ref (q 7), .ref (q 8), .ref (q 9), .ref (q 10), .ref (q 11), .int ρ.1.2.2.2, .ref (q 12), .ref (q 13), .ref (q 14), .ref (q 15), .ref (q 16), .ref (q 17), .int ρ.2.2.1.1.1, .ref (q 18), .ref (q 19), .ref (q 20), .ref (q 21)])), (q 1, .inl (cR 1, 67, .inr (.inl (vp_updL ρ.1.1.1.1.1 a1.toNatClampNeg (ρ.1.1.1.1.1 a0.toNatClampNeg))))), (q 2, .inl (cR 2, 67, .inl (upd ρ.1.1.1.1.2 a1.toNatClampNeg (ρ.1.1.1.1.2 a0.toNatClampNeg)))), (q 3, .inl (cR 3, 67, .inl (upd ρ.1.1.1.2 a1.toNatClampNeg (ρ.1.1.1.2 a0.toNatClampNeg)))), (q 4, .inl (cR 4, 67, .inl ρ.1.1.2.1.1)), (q 5, .inl (cR 5, 67, .inr (.inl ρ.1.1.2.1.2))), (q 6, .inl (cR 6, 67, .inl ρ.1.1.2.2)), (q 7, .inl (cR 7, 536, .inl ρ.1.2.1.1.1)), (q 8, .inl (cR 8, 67, .inl ρ.1.2.1.1.2)), (q 9, .inl (cR 9, 67, .inr (.inl ρ.1.2.1.2))), (q 10, .inl (cR 10, 67, .inr (.inl ρ.1.2.2.1.1))), (q 11, .inl (cR 11, 67, .inl ρ.1.2.2.1.2)), (q 12, .inl (cR 12, 60, .inl ρ.2.1.1.1.1)), (q 13, .inl (cR 13, 60, .inl ρ.2.1.1.1.2)), (q 14, .inl (cR 14, 60, .inr (.inl ρ.2.1.1.2))), (q 15, .inl (cR 15, 60, .inr (.inl ρ.2.1.2.1.1))), (q 16, .inl (cR 16, 4, .inl ρ.2.1.2.1.2)), (q 17, .inl (cR 17, 4, .inl ρ.2.1.2.2)), (q 18, .inl (cR 18, 100, .inl ρ.2.2.1.1.2)), (q 19, .inl (cR 19, 5, .inl ρ.2.2.1.2)), (q 20, .inl (cR 20, 5, .inl ρ.2.2.2.1)), (q 21, .inl (cR 21, 5, .inl ρ.2.2.2.2))]) H := hP
              have hD : va_D A ([(q 0, .inr (4, [.ref (q 1), .ref (q 2), .ref (q 3), .ref (q 4), .ref (q 5), .ref (q 6), .ref (q 7), .ref (q 8), .ref (q 9), .ref (q 10), .ref (q 11), .int ρ.1.2.2.2, .ref (q 12), .ref (q 13), .ref (q 14), .ref (q 15), .ref (q 16), .ref (q 17), .int ρ.2.2.1.1.1, .ref (q 18), .ref (q 19), .ref (q 20), .ref (q 21)])), (q 1, .inl (cR 1, 67, .inr (.inl (vp_updL ρ.1.1.1.1.1 a1.toNatClampNeg (ρ.1.1.1.1.1 a0.toNatClampNeg))))), (q 2, .inl (cR 2, 67, .inl (upd ρ.1.1.1.1.2 a1.toNatClampNeg (ρ.1.1.1.1.2 a0.toNatClampNeg)))), (q 3, .inl (cR 3, 67, .inl (upd ρ.1.1.1.2 a1.toNatClampNeg (ρ.1.1.1.2 a0.toNatClampNeg)))), (q 4, .inl (cR 4, 67, .inl ρ.1.1.2.1.1)), (q 5, .inl (cR 5, 67, .inr (.inl ρ.1.1.2.1.2))), (q 6, .inl (cR 6, 67, .inl ρ.1.1.2.2)), (q 7, .inl (cR 7, 536, .inl ρ.1.2.1.1.1)), (q 8, .inl (cR 8, 67, .inl ρ.1.2.1.1.2)), (q 9, .inl (cR 9, 67, .inr (.inl ρ.1.2.1.2))), (q 10, .inl (cR 10, 67, .inr (.inl ρ.1.2.2.1.1))), (q 11, .inl (cR 11, 67, .inl ρ.1.2.2.1.2)), (q 12, .inl (cR 12, 60, .inl ρ.2.1.1.1.1)), (q 13, .inl (cR 13, 60, .inl ρ.2.1.1.1.2)), (q 14, .inl (cR 14, 60, .inr (.inl ρ.2.1.1.2))), (q 15, .inl (cR 15, 60, .inr (.inl ρ.2.1.2.1.1))), (q 16, .inl (cR 16, 4, .inl ρ.2.1.2.1.2)), (q 17, .inl (cR 17, 4, .inl ρ.2.1.2.2)), (q 18, .inl (cR 18, 100, .inl ρ.2.2.1.1.2)), (q 19, .inl (cR 19, 5, .inl ρ.2.2.1.2)), (q 20, .inl (cR 20, 5, .inl ρ.2.2.2.1)), (q 21, .inl (cR 21, 5, .inl ρ.2.2.2.2))]) := hD
              refine lv_aload_n hx hb d_R_copy_36 rfl (lv_at hl 0 rfl) ?_
              refine va_get (D := D) (ci := 4) (v := .ref (q 4)) (C := R_R) (T := T_R) (N := 23) hx hb hts in_R hown hK hP (0) rfl rfl 3 (by decide) (hts _ k_431) (fun _ h9 => h9) rfl d_R_copy_37 ?_
              refine lv_iload_n hx hb d_R_copy_40 rfl (lv_at hl 2 rfl) ?_
              refine lv_aload_n hx hb d_R_copy_41 rfl (lv_at hl 0 rfl) ?_
              refine va_get (D := D) (ci := 4) (v := .ref (q 4)) (C := R_R) (T := T_R) (N := 23) hx hb hts in_R hown hK hP (0) rfl rfl 3 (by decide) (hts _ k_431) (fun _ h9 => h9) rfl d_R_copy_42 ?_
              refine lv_iload_n hx hb d_R_copy_45 rfl (lv_at hl 1 rfl) ?_
              by_cases ck_46 : zin a0 67
              · have hres := zi_p ck_46 hres
                refine va_iald hx hb hK hP 4 3 rfl rfl ck_46 d_R_copy_46 ?_
                by_cases ck_47 : zin a1 67
                · have hres := zi_p ck_47 hres
                  refine va_iast hx hb hK hP hD hS 4 3 rfl rfl ck_47 d_R_copy_47 (fun H locs hP hD hS => ?_)
                  have hP : va_P D vwCl ([(q 0, .inr (4, [.ref (q 1), .ref (q 2), .ref (q 3), .ref (q 4), .ref (q 5), .ref (q 6), .ref (q 7), .ref (q 8), .ref (q 9), .ref (q 10), .ref (q 11), .int ρ.1.2.2.2, .ref (q 12), .ref (q 13), .ref (q 14), .ref (q 15), .ref (q 16), .ref (q 17), .int ρ.2.2.1.1.1, .ref (q 18), .ref (q 19), .ref (q 20), .ref (q 21)])), (q 1, .inl (cR 1, 67, .inr (.inl (vp_updL ρ.1.1.1.1.1 a1.toNatClampNeg (ρ.1.1.1.1.1 a0.toNatClampNeg))))), (q 2, .inl (cR 2, 67, .inl (upd ρ.1.1.1.1.2 a1.toNatClampNeg (ρ.1.1.1.1.2 a0.toNatClampNeg)))), (q 3, .inl (cR 3, 67, .inl (upd ρ.1.1.1.2 a1.toNatClampNeg (ρ.1.1.1.2 a0.toNatClampNeg)))), (q 4, .inl (cR 4, 67, .inl (upd ρ.1.1.2.1.1 a1.toNatClampNeg (ρ.1.1.2.1.1 a0.toNatClampNeg)))), (q 5, .inl (cR 5, 67, .inr (.inl ρ.1.1.2.1.2))), (q 6, .inl (cR 6, 67, .inl ρ.1.1.2.2)), (q 7, .inl (cR 7, 536, .inl ρ.1.2.1.1.1)), (q 8, .inl (cR 8, 67, .inl ρ.1.2.1.1.2)), (q 9, .inl (cR 9, 67, .inr (.inl ρ.1.2.1.2))), (q 10, .inl (cR 10, 67, .inr (.inl ρ.1.2.2.1.1))), (q 11, .inl (cR 11, 67, .inl ρ.1.2.2.1.2)), (q 12, .inl (cR 12, 60, .inl ρ.2.1.1.1.1)), (q 13, .inl (cR 13, 60, .inl ρ.2.1.1.1.2)), (q 14, .inl (cR 14, 60, .inr (.inl ρ.2.1.1.2))), (q 15, .inl (cR 15, 60, .inr (.inl ρ.2.1.2.1.1))), (q 16, .inl (cR 16, 4, .inl ρ.2.1.2.1.2)), (q 17, .inl (cR 17, 4, .inl ρ.2.1.2.2)), (q 18, .inl (cR 18, 100, .inl ρ.2.2.1.1.2)), (q 19, .inl (cR 19, 5, .inl ρ.2.2.1.2)), (q 20, .inl (cR 20, 5, .inl ρ.2.2.2.1)), (q 21, .inl (cR 21, 5, .inl ρ.2.2.2.2))]) H := hP
                  have hD : va_D A ([(q 0, .inr (4, [.ref (q 1), .ref (q 2), .ref (q 3), .ref (q 4), .ref (q 5), .ref (q 6), .ref (q 7), .ref (q 8), .ref (q 9), .ref (q 10), .ref (q 11), .int ρ.1.2.2.2, .ref (q 12), .ref (q 13), .ref (q 14), .ref (q 15), .ref (q 16), .ref (q 17), .int ρ.2.2.1.1.1, .ref (q 18), .ref (q 19), .ref (q 20), .ref (q 21)])), (q 1, .inl (cR 1, 67, .inr (.inl (vp_updL ρ.1.1.1.1.1 a1.toNatClampNeg (ρ.1.1.1.1.1 a0.toNatClampNeg))))), (q 2, .inl (cR 2, 67, .inl (upd ρ.1.1.1.1.2 a1.toNatClampNeg (ρ.1.1.1.1.2 a0.toNatClampNeg)))), (q 3, .inl (cR 3, 67, .inl (upd ρ.1.1.1.2 a1.toNatClampNeg (ρ.1.1.1.2 a0.toNatClampNeg)))), (q 4, .inl (cR 4, 67, .inl (upd ρ.1.1.2.1.1 a1.toNatClampNeg (ρ.1.1.2.1.1 a0.toNatClampNeg)))), (q 5, .inl (cR 5, 67, .inr (.inl ρ.1.1.2.1.2))), (q 6, .inl (cR 6, 67, .inl ρ.1.1.2.2)), (q 7, .inl (cR 7, 536, .inl ρ.1.2.1.1.1)), (q 8, .inl (cR 8, 67, .inl ρ.1.2.1.1.2)), (q 9, .inl (cR 9, 67, .inr (.inl ρ.1.2.1.2))), (q 10, .inl (cR 10, 67, .inr (.inl ρ.1.2.2.1.1))), (q 11, .inl (cR 11, 67, .inl ρ.1.2.2.1.2)), (q 12, .inl (cR 12, 60, .inl ρ.2.1.1.1.1)), (q 13, .inl (cR 13, 60, .inl ρ.2.1.1.1.2)), (q 14, .inl (cR 14, 60, .inr (.inl ρ.2.1.1.2))), (q 15, .inl (cR 15, 60, .inr (.inl ρ.2.1.2.1.1))), (q 16, .inl (cR 16, 4, .inl ρ.2.1.2.1.2)), (q 17, .inl (cR 17, 4, .inl ρ.2.1.2.2)), (q 18, .inl (cR 18, 100, .inl ρ.2.2.1.1.2)), (q 19, .inl (cR 19, 5, .inl ρ.2.2.1.2)), (q 20, .inl (cR 20, 5, .inl ρ.2.2.2.1)), (q 21, .inl (cR 21, 5, .inl ρ.2.2.2.2))]) := hD
                  refine lv_aload_n hx hb d_R_copy_48 rfl (lv_at hl 0 rfl) ?_
                  refine va_get (D := D) (ci := 4) (v := .ref (q 5)) (C := R_R) (T := T_R) (N := 23) hx hb hts in_R hown hK hP (0) rfl rfl 4 (by decide) (hts _ k_432) (fun _ h9 => h9) rfl d_R_copy_49 ?_
                  refine lv_iload_n hx hb d_R_copy_52 rfl (lv_at hl 2 rfl) ?_
                  refine lv_aload_n hx hb d_R_copy_53 rfl (lv_at hl 0 rfl) ?_
                  refine va_get (D := D) (ci := 4) (v := .ref (q 5)) (C := R_R) (T := T_R) (N := 23) hx hb hts in_R hown hK hP (0) rfl rfl 4 (by decide) (hts _ k_432) (fun _ h9 => h9) rfl d_R_copy_54 ?_
                  refine lv_iload_n hx hb d_R_copy_57 rfl (lv_at hl 1 rfl) ?_
                  by_cases ck_58 : zin a0 67
                  · have hres := zi_p ck_58 hres
                    refine va_lald hx hb hK hP 5 4 rfl rfl ck_58 d_R_copy_58 ?_
                    by_cases ck_59 : zin a1 67
                    · have hres := zi_p ck_59 hres
                      refine va_last hx hb hK hP hD hS 5 4 rfl rfl ck_59 d_R_copy_59 (fun H locs hP hD hS => ?_)
                      have hP : va_P D vwCl ([(q 0, .inr (4, [.ref (q 1), .ref (q 2), .ref (q 3), .ref (q 4), .ref (q 5), .ref (q 6), .ref (q 7), .ref (q 8), .ref (q 9), .ref (q 10), .ref (q 11), .int ρ.1.2.2.2, .ref (q 12), .ref (q 13), .ref (q 14), .ref (q 15), .ref (q 16), .ref (q 17), .int ρ.2.2.1.1.1, .ref (q 18), .ref (q 19), .ref (q 20), .ref (q 21)])), (q 1, .inl (cR 1, 67, .inr (.inl (vp_updL ρ.1.1.1.1.1 a1.toNatClampNeg (ρ.1.1.1.1.1 a0.toNatClampNeg))))), (q 2, .inl (cR 2, 67, .inl (upd ρ.1.1.1.1.2 a1.toNatClampNeg (ρ.1.1.1.1.2 a0.toNatClampNeg)))), (q 3, .inl (cR 3, 67, .inl (upd ρ.1.1.1.2 a1.toNatClampNeg (ρ.1.1.1.2 a0.toNatClampNeg)))), (q 4, .inl (cR 4, 67, .inl (upd ρ.1.1.2.1.1 a1.toNatClampNeg (ρ.1.1.2.1.1 a0.toNatClampNeg)))), (q 5, .inl (cR 5, 67, .inr (.inl (vp_updL ρ.1.1.2.1.2 a1.toNatClampNeg (ρ.1.1.2.1.2 a0.toNatClampNeg))))), (q 6, .inl (cR 6, 67, .inl ρ.1.1.2.2)), (q 7, .inl (cR 7, 536, .inl ρ.1.2.1.1.1)), (q 8, .inl (cR 8, 67, .inl ρ.1.2.1.1.2)), (q 9, .inl (cR 9, 67, .inr (.inl ρ.1.2.1.2))), (q 10, .inl (cR 10, 67, .inr (.inl ρ.1.2.2.1.1))), (q 11, .inl (cR 11, 67, .inl ρ.1.2.2.1.2)), (q 12, .inl (cR 12, 60, .inl ρ.2.1.1.1.1)), (q 13, .inl (cR 13, 60, .inl ρ.2.1.1.1.2)), (q 14, .inl (cR 14, 60, .inr (.inl ρ.2.1.1.2))), (q 15, .inl (cR 15, 60, .inr (.inl ρ.2.1.2.1.1))), (q 16, .inl (cR 16, 4, .inl ρ.2.1.2.1.2)), (q 17, .inl (cR 17, 4, .inl ρ.2.1.2.2)), (q 18, .inl (cR 18, 100, .inl ρ.2.2.1.1.2)), (q 19, .inl (cR 19, 5, .inl ρ.2.2.1.2)), (q 20, .inl (cR 20, 5, .inl ρ.2.2.2.1)), (q 21, .inl (cR 21, 5, .inl ρ.2.2.2.2))]) H := hP
                      have hD : va_D A ([(q 0, .inr (4, [.ref (q 1), .ref (q 2), .ref (q 3), .ref (q 4), .ref (q 5), .ref (q 6), .ref (q 7), .ref (q 8), .ref (q 9), .ref (q 10), .ref (q 11), .int ρ.1.2.2.2, .ref (q 12), .ref (q 13), .ref (q 14), .ref (q 15), .ref (q 16), .ref (q 17), .int ρ.2.2.1.1.1, .ref (q 18), .ref (q 19), .ref (q 20), .ref (q 21)])), (q 1, .inl (cR 1, 67, .inr (.inl (vp_updL ρ.1.1.1.1.1 a1.toNatClampNeg (ρ.1.1.1.1.1 a0.toNatClampNeg))))), (q 2, .inl (cR 2, 67, .inl (upd ρ.1.1.1.1.2 a1.toNatClampNeg (ρ.1.1.1.1.2 a0.toNatClampNeg)))), (q 3, .inl (cR 3, 67, .inl (upd ρ.1.1.1.2 a1.toNatClampNeg (ρ.1.1.1.2 a0.toNatClampNeg)))), (q 4, .inl (cR 4, 67, .inl (upd ρ.1.1.2.1.1 a1.toNatClampNeg (ρ.1.1.2.1.1 a0.toNatClampNeg)))), (q 5, .inl (cR 5, 67, .inr (.inl (vp_updL ρ.1.1.2.1.2 a1.toNatClampNeg (ρ.1.1.2.1.2 a0.toNatClampNeg))))), (q 6, .inl (cR 6, 67, .inl ρ.1.1.2.2)), (q 7, .inl (cR 7, 536, .inl ρ.1.2.1.1.1)), (q 8, .inl (cR 8, 67, .inl ρ.1.2.1.1.2)), (q 9, .inl (cR 9, 67, .inr (.inl ρ.1.2.1.2))), (q 10, .inl (cR 10, 67, .inr (.inl ρ.1.2.2.1.1))), (q 11, .inl (cR 11, 67, .inl ρ.1.2.2.1.2)), (q 12, .inl (cR 12, 60, .inl ρ.2.1.1.1.1)), (q 13, .inl (cR 13, 60, .inl ρ.2.1.1.1.2)), (q 14, .inl (cR 14, 60, .inr (.inl ρ.2.1.1.2))), (q 15, .inl (cR 15, 60, .inr (.inl ρ.2.1.2.1.1))), (q 16, .inl (cR 16, 4, .inl ρ.2.1.2.1.2)), (q 17, .inl (cR 17, 4, .inl ρ.2.1.2.2)), (q 18, .inl (cR 18, 100, .inl ρ.2.2.1.1.2)), (q 19, .inl (cR 19, 5, .inl ρ.2.2.1.2)), (q 20, .inl (cR 20, 5, .inl ρ.2.2.2.1)), (q 21, .inl (cR 21, 5, .inl ρ.2.2.2.2))]) := hD
                      refine lv_aload_n hx hb d_R_copy_60 rfl (lv_at hl 0 rfl) ?_
                      refine va_get (D := D) (ci := 4) (v := .ref (q 6)) (C := R_R) (T := T_R) (N := 23) hx hb hts in_R hown hK hP (0) rfl rfl 5 (by decide) (hts _ k_433) (fun _ h9 => h9) rfl d_R_copy_61 ?_
                      refine lv_iload_n hx hb d_R_copy_64 rfl (lv_at hl 2 rfl) ?_
                      refine lv_aload_n hx hb d_R_copy_65 rfl (lv_at hl 0 rfl) ?_
                      refine va_get (D := D) (ci := 4) (v := .ref (q 6)) (C := R_R) (T := T_R) (N := 23) hx hb hts in_R hown hK hP (0) rfl rfl 5 (by decide) (hts _ k_433) (fun _ h9 => h9) rfl d_R_copy_66 ?_
                      refine lv_iload_n hx hb d_R_copy_69 rfl (lv_at hl 1 rfl) ?_
                      by_cases ck_70 : zin a0 67
                      · have hres := zi_p ck_70 hres
                        refine va_iald hx hb hK hP 6 5 rfl rfl ck_70 d_R_copy_70 ?_
                        by_cases ck_71 : zin a1 67
                        · have hres := zi_p ck_71 hres
                          refine va_iast hx hb hK hP hD hS 6 5 rfl rfl ck_71 d_R_copy_71 (fun H locs hP hD hS => ?_)
                          have hP : va_P D vwCl ([(q 0, .inr (4, [.ref (q 1), .ref (q 2), .ref (q 3), .ref (q 4), .ref (q 5), .ref (q 6), .ref (q 7), .ref (q 8), .ref (q 9), .ref (q 10), .ref (q 11), .int ρ.1.2.2.2, .ref (q 12), .ref (q 13), .ref (q 14), .ref (q 15), .ref (q 16), .ref (q 17), .int ρ.2.2.1.1.1, .ref (q 18), .ref (q 19), .ref (q 20), .ref (q 21)])), (q 1, .inl (cR 1, 67, .inr (.inl (vp_updL ρ.1.1.1.1.1 a1.toNatClampNeg (ρ.1.1.1.1.1 a0.toNatClampNeg))))), (q 2, .inl (cR 2, 67, .inl (upd ρ.1.1.1.1.2 a1.toNatClampNeg (ρ.1.1.1.1.2 a0.toNatClampNeg)))), (q 3, .inl (cR 3, 67, .inl (upd ρ.1.1.1.2 a1.toNatClampNeg (ρ.1.1.1.2 a0.toNatClampNeg)))), (q 4, .inl (cR 4, 67, .inl (upd ρ.1.1.2.1.1 a1.toNatClampNeg (ρ.1.1.2.1.1 a0.toNatClampNeg)))), (q 5, .inl (cR 5, 67, .inr (.inl (vp_updL ρ.1.1.2.1.2 a1.toNatClampNeg (ρ.1.1.2.1.2 a0.toNatClampNeg))))), (q 6, .inl (cR 6, 67, .inl (upd ρ.1.1.2.2 a1.toNatClampNeg (ρ.1.1.2.2 a0.toNatClampNeg)))), (q 7, .inl (cR 7, 536, .inl ρ.1.2.1.1.1)), (q 8, .inl (cR 8, 67, .inl ρ.1.2.1.1.2)), (q 9, .inl (cR 9, 67, .inr (.inl ρ.1.2.1.2))), (q 10, .inl (cR 10, 67, .inr (.inl ρ.1.2.2.1.1))), (q 11, .inl (cR 11, 67, .inl ρ.1.2.2.1.2)), (q 12, .inl (cR 12, 60, .inl ρ.2.1.1.1.1)), (q 13, .inl (cR 13, 60, .inl ρ.2.1.1.1.2)), (q 14, .inl (cR 14, 60, .inr (.inl ρ.2.1.1.2))), (q 15, .inl (cR 15, 60, .inr (.inl ρ.2.1.2.1.1))), (q 16, .inl (cR 16, 4, .inl ρ.2.1.2.1.2)), (q 17, .inl (cR 17, 4, .inl ρ.2.1.2.2)), (q 18, .inl (cR 18, 100, .inl ρ.2.2.1.1.2)), (q 19, .inl (cR 19, 5, .inl ρ.2.2.1.2)), (q 20, .inl (cR 20, 5, .inl ρ.2.2.2.1)), (q 21, .inl (cR 21, 5, .inl ρ.2.2.2.2))]) H := hP
                          have hD : va_D A ([(q 0, .inr (4, [.ref (q 1), .ref (q 2), .ref (q 3), .ref (q 4), .ref (q 5), .ref (q 6), .ref (q 7), .ref (q 8), .ref (q 9), .ref (q 10), .ref (q 11), .int ρ.1.2.2.2, .ref (q 12), .ref (q 13), .ref (q 14), .ref (q 15), .ref (q 16), .ref (q 17), .int ρ.2.2.1.1.1, .ref (q 18), .ref (q 19), .ref (q 20), .ref (q 21)])), (q 1, .inl (cR 1, 67, .inr (.inl (vp_updL ρ.1.1.1.1.1 a1.toNatClampNeg (ρ.1.1.1.1.1 a0.toNatClampNeg))))), (q 2, .inl (cR 2, 67, .inl (upd ρ.1.1.1.1.2 a1.toNatClampNeg (ρ.1.1.1.1.2 a0.toNatClampNeg)))), (q 3, .inl (cR 3, 67, .inl (upd ρ.1.1.1.2 a1.toNatClampNeg (ρ.1.1.1.2 a0.toNatClampNeg)))), (q 4, .inl (cR 4, 67, .inl (upd ρ.1.1.2.1.1 a1.toNatClampNeg (ρ.1.1.2.1.1 a0.toNatClampNeg)))), (q 5, .inl (cR 5, 67, .inr (.inl (vp_updL ρ.1.1.2.1.2 a1.toNatClampNeg (ρ.1.1.2.1.2 a0.toNatClampNeg))))), (q 6, .inl (cR 6, 67, .inl (upd ρ.1.1.2.2 a1.toNatClampNeg (ρ.1.1.2.2 a0.toNatClampNeg)))), (q 7, .inl (cR 7, 536, .inl ρ.1.2.1.1.1)), (q 8, .inl (cR 8, 67, .inl ρ.1.2.1.1.2)), (q 9, .inl (cR 9, 67, .inr (.inl ρ.1.2.1.2))), (q 10, .inl (cR 10, 67, .inr (.inl ρ.1.2.2.1.1))), (q 11, .inl (cR 11, 67, .inl ρ.1.2.2.1.2)), (q 12, .inl (cR 12, 60, .inl ρ.2.1.1.1.1)), (q 13, .inl (cR 13, 60, .inl ρ.2.1.1.1.2)), (q 14, .inl (cR 14, 60, .inr (.inl ρ.2.1.1.2))), (q 15, .inl (cR 15, 60, .inr (.inl ρ.2.1.2.1.1))), (q 16, .inl (cR 16, 4, .inl ρ.2.1.2.1.2)), (q 17, .inl (cR 17, 4, .inl ρ.2.1.2.2)), (q 18, .inl (cR 18, 100, .inl ρ.2.2.1.1.2)), (q 19, .inl (cR 19, 5, .inl ρ.2.2.1.2)), (q 20, .inl (cR 20, 5, .inl ρ.2.2.2.1)), (q 21, .inl (cR 21, 5, .inl ρ.2.2.2.2))]) := hD
                          refine lv_iconst (v := 0) hx hb d_R_copy_72 (by decide) ?_
                          refine lv_istore_n (lv' := [(3, .int 0), (0, .ref (q 0)), (1, .int a0), (2, .int a1)]) hx hb d_R_copy_73 rfl hl (by decide) rfl (fun ls hl => ?_)
                          obtain ⟨w74, hL74, hres⟩ := zo_b hres
                          have hk74 : ∀ (H : Heap) (locs : List Loc), va_P D vwCl (zR q cR w74.2) H → va_D A (zR q cR w74.2) → va_S A s.heap H locs → ∀ (ls : Array Slot), lv_has ls 4 [(3, .int w74.1), (0, .ref (q 0)), (1, .int a0), (2, .int a1)] → W p l e (headSpec w_R_copy ({ frames := 0, cells := 0, slots := 0, locals := 0 } : Room)).room s m ([.ref (q 0), .int a0, .int a1].toArray) below meth c H locs 0 0 (MQ below (qd_R_copy D tys q cR ρ a0 a1 v A) ([.ref (q 0), .int a0, .int a1].toArray) s 0 0 A) (F0 m 108 ls []) := by
                            intro H locs hP hD hS ls hl
                            refine lv_aload_n hx hb d_R_copy_108 rfl (lv_at hl 1 rfl) ?_
                            refine va_get (D := D) (ci := 4) (v := .ref (q 8)) (C := R_R) (T := T_R) (N := 23) hx hb hts in_R hown hK hP (0) rfl rfl 7 (by decide) (hts _ k_435) (fun _ h9 => h9) rfl d_R_copy_109 ?_
                            refine lv_iload_n hx hb d_R_copy_112 rfl (lv_at hl 3 rfl) ?_
                            refine lv_aload_n hx hb d_R_copy_113 rfl (lv_at hl 1 rfl) ?_
                            refine va_get (D := D) (ci := 4) (v := .ref (q 8)) (C := R_R) (T := T_R) (N := 23) hx hb hts in_R hown hK hP (0) rfl rfl 7 (by decide) (hts _ k_435) (fun _ h9 => h9) rfl d_R_copy_114 ?_
                            refine lv_iload_n hx hb d_R_copy_117 rfl (lv_at hl 2 rfl) ?_
                            by_cases ck_118 : zin a0 67
                            · have hres := zi_p ck_118 hres
                              refine va_zald hx hb hK hP 8 7 rfl rfl ck_118 d_R_copy_118 ?_
                              by_cases ck_119 : zin a1 67
                              · have hres := zi_p ck_119 hres
                                refine va_zast hx hb hK hP hD hS 8 7 rfl rfl ck_119 d_R_copy_119 (fun H locs hP hD hS => ?_)
                                have hP : va_P D vwCl ([(q 0, .inr (4, [.ref (q 1), .ref (q 2), .ref (q 3), .ref (q 4), .ref (q 5), .ref (q 6), .ref (q 7), .ref (q 8), .ref (q 9), .ref (q 10), .ref (q 11), .int w74.2.1.2.2.2, .ref (q 12), .ref (q 13), .ref (q 14), .ref (q 15), .ref (q 16), .ref (q 17), .int w74.2.2.2.1.1.1, .ref (q 18), .ref (q 19), .ref (q 20), .ref (q 21)])), (q 1, .inl (cR 1, 67, .inr (.inl w74.2.1.1.1.1.1))), (q 2, .inl (cR 2, 67, .inl w74.2.1.1.1.1.2)), (q 3, .inl (cR 3, 67, .inl w74.2.1.1.1.2)), (q 4, .inl (cR 4, 67, .inl w74.2.1.1.2.1.1)), (q 5, .inl (cR 5, 67, .inr (.inl w74.2.1.1.2.1.2))), (q 6, .inl (cR 6, 67, .inl w74.2.1.1.2.2)), (q 7, .inl (cR 7, 536, .inl w74.2.1.2.1.1.1)), (q 8, .inl (cR 8, 67, .inl (upd w74.2.1.2.1.1.2 a1.toNatClampNeg (vp_nar .boolean (w74.2.1.2.1.1.2 a0.toNatClampNeg))))), (q 9, .inl (cR 9, 67, .inr (.inl w74.2.1.2.1.2))), (q 10, .inl (cR 10, 67, .inr (.inl w74.2.1.2.2.1.1))), (q 11, .inl (cR 11, 67, .inl w74.2.1.2.2.1.2)), (q 12, .inl (cR 12, 60, .inl w74.2.2.1.1.1.1)), (q 13, .inl (cR 13, 60, .inl w74.2.2.1.1.1.2)), (q 14, .inl (cR 14, 60, .inr (.inl w74.2.2.1.1.2))), (q 15, .inl (cR 15, 60, .inr (.inl w74.2.2.1.2.1.1))), (q 16, .inl (cR 16, 4, .inl w74.2.2.1.2.1.2)), (q 17, .inl (cR 17, 4, .inl w74.2.2.1.2.2)), (q 18, .inl (cR 18, 100, .inl w74.2.2.2.1.1.2)), (q 19, .inl (cR 19, 5, .inl w74.2.2.2.1.2)), (q 20, .inl (cR 20, 5, .inl w74.2.2.2.2.1)), (q 21, .inl (cR 21, 5, .inl w74.2.2.2.2.2))]) H := hP
                                have hD : va_D A ([(q 0, .inr (4, [.ref (q 1), .ref (q 2), .ref (q 3), .ref (q 4), .ref (q 5), .ref (q 6), .ref (q 7), .ref (q 8), .ref (q 9), .ref (q 10), .ref (q 11), .int w74.2.1.2.2.2, .ref (q 12), .ref (q 13), .ref (q 14), .ref (q 15), .ref (q 16), .ref (q 17), .int w74.2.2.2.1.1.1, .ref (q 18), .ref (q 19), .ref (q 20), .ref (q 21)])), (q 1, .inl (cR 1, 67, .inr (.inl w74.2.1.1.1.1.1))), (q 2, .inl (cR 2, 67, .inl w74.2.1.1.1.1.2)), (q 3, .inl (cR 3, 67, .inl w74.2.1.1.1.2)), (q 4, .inl (cR 4, 67, .inl w74.2.1.1.2.1.1)), (q 5, .inl (cR 5, 67, .inr (.inl w74.2.1.1.2.1.2))), (q 6, .inl (cR 6, 67, .inl w74.2.1.1.2.2)), (q 7, .inl (cR 7, 536, .inl w74.2.1.2.1.1.1)), (q 8, .inl (cR 8, 67, .inl (upd w74.2.1.2.1.1.2 a1.toNatClampNeg (vp_nar .boolean (w74.2.1.2.1.1.2 a0.toNatClampNeg))))), (q 9, .inl (cR 9, 67, .inr (.inl w74.2.1.2.1.2))), (q 10, .inl (cR 10, 67, .inr (.inl w74.2.1.2.2.1.1))), (q 11, .inl (cR 11, 67, .inl w74.2.1.2.2.1.2)), (q 12, .inl (cR 12, 60, .inl w74.2.2.1.1.1.1)), (q 13, .inl (cR 13, 60, .inl w74.2.2.1.1.1.2)), (q 14, .inl (cR 14, 60, .inr (.inl w74.2.2.1.1.2))), (q 15, .inl (cR 15, 60, .inr (.inl w74.2.2.1.2.1.1))), (q 16, .inl (cR 16, 4, .inl w74.2.2.1.2.1.2)), (q 17, .inl (cR 17, 4, .inl w74.2.2.1.2.2)), (q 18, .inl (cR 18, 100, .inl w74.2.2.2.1.1.2)), (q 19, .inl (cR 19, 5, .inl w74.2.2.2.1.2)), (q 20, .inl (cR 20, 5, .inl w74.2.2.2.2.1)), (q 21, .inl (cR 21, 5, .inl w74.2.2.2.2.2))]) := hD
                                refine lv_aload_n hx hb d_R_copy_120 rfl (lv_at hl 1 rfl) ?_
                                refine va_get (D := D) (ci := 4) (v := .ref (q 9)) (C := R_R) (T := T_R) (N := 23) hx hb hts in_R hown hK hP (0) rfl rfl 8 (by decide) (hts _ k_436) (fun _ h9 => h9) rfl d_R_copy_121 ?_
                                refine lv_iload_n hx hb d_R_copy_124 rfl (lv_at hl 3 rfl) ?_
                                refine lv_aload_n hx hb d_R_copy_125 rfl (lv_at hl 1 rfl) ?_
                                refine va_get (D := D) (ci := 4) (v := .ref (q 9)) (C := R_R) (T := T_R) (N := 23) hx hb hts in_R hown hK hP (0) rfl rfl 8 (by decide) (hts _ k_436) (fun _ h9 => h9) rfl d_R_copy_126 ?_
                                refine lv_iload_n hx hb d_R_copy_129 rfl (lv_at hl 2 rfl) ?_
                                by_cases ck_130 : zin a0 67
                                · have hres := zi_p ck_130 hres
                                  refine va_lald hx hb hK hP 9 8 rfl rfl ck_130 d_R_copy_130 ?_
                                  by_cases ck_131 : zin a1 67
                                  · have hres := zi_p ck_131 hres
                                    refine va_last hx hb hK hP hD hS 9 8 rfl rfl ck_131 d_R_copy_131 (fun H locs hP hD hS => ?_)
                                    have hP : va_P D vwCl ([(q 0, .inr (4, [.ref (q 1), .ref (q 2), .ref (q 3), .ref (q 4), .ref (q 5), .ref (q 6), .ref (q 7), .ref (q 8), .ref (q 9), .ref (q 10), .ref (q 11), .int w74.2.1.2.2.2, .ref (q 12), .ref (q 13), .ref (q 14), .ref (q 15), .ref (q 16), .ref (q 17), .int w74.2.2.2.1.1.1, .ref (q 18), .ref (q 19), .ref (q 20), .ref (q 21)])), (q 1, .inl (cR 1, 67, .inr (.inl w74.2.1.1.1.1.1))), (q 2, .inl (cR 2, 67, .inl w74.2.1.1.1.1.2)), (q 3, .inl (cR 3, 67, .inl w74.2.1.1.1.2)), (q 4, .inl (cR 4, 67, .inl w74.2.1.1.2.1.1)), (q 5, .inl (cR 5, 67, .inr (.inl w74.2.1.1.2.1.2))), (q 6, .inl (cR 6, 67, .inl w74.2.1.1.2.2)), (q 7, .inl (cR 7, 536, .inl w74.2.1.2.1.1.1)), (q 8, .inl (cR 8, 67, .inl (upd w74.2.1.2.1.1.2 a1.toNatClampNeg (vp_nar .boolean (w74.2.1.2.1.1.2 a0.toNatClampNeg))))), (q 9, .inl (cR 9, 67, .inr (.inl (vp_updL w74.2.1.2.1.2 a1.toNatClampNeg (w74.2.1.2.1.2 a0.toNatClampNeg))))), (q 10, .inl (cR 10, 67, .inr (.inl w74.2.1.2.2.1.1))), (q 11, .inl (cR 11, 67, .inl w74.2.1.2.2.1.2)), (q 12, .inl (cR 12, 60, .inl w74.2.2.1.1.1.1)), (q 13, .inl (cR 13, 60, .inl w74.2.2.1.1.1.2)), (q 14, .inl (cR 14, 60, .inr (.inl w74.2.2.1.1.2))), (q 15, .inl (cR 15, 60, .inr (.inl w74.2.2.1.2.1.1))), (q 16, .inl (cR 16, 4, .inl w74.2.2.1.2.1.2)), (q 17, .inl (cR 17, 4, .inl w74.2.2.1.2.2)), (q 18, .inl (cR 18, 100, .inl w74.2.2.2.1.1.2)), (q 19, .inl (cR 19, 5, .inl w74.2.2.2.1.2)), (q 20, .inl (cR 20, 5, .inl w74.2.2.2.2.1)), (q 21, .inl (cR 21, 5, .inl w74.2.2.2.2.2))]) H := hP
                                    have hD : va_D A ([(q 0, .inr (4, [.ref (q 1), .ref (q 2), .ref (q 3), .ref (q 4), .ref (q 5), .ref (q 6), .ref (q 7), .ref (q 8), .ref (q 9), .ref (q 10), .ref (q 11), .int w74.2.1.2.2.2, .ref (q 12), .ref (q 13), .ref (q 14), .ref (q 15), .ref (q 16), .ref (q 17), .int w74.2.2.2.1.1.1, .ref (q 18), .ref (q 19), .ref (q 20), .ref (q 21)])), (q 1, .inl (cR 1, 67, .inr (.inl w74.2.1.1.1.1.1))), (q 2, .inl (cR 2, 67, .inl w74.2.1.1.1.1.2)), (q 3, .inl (cR 3, 67, .inl w74.2.1.1.1.2)), (q 4, .inl (cR 4, 67, .inl w74.2.1.1.2.1.1)), (q 5, .inl (cR 5, 67, .inr (.inl w74.2.1.1.2.1.2))), (q 6, .inl (cR 6, 67, .inl w74.2.1.1.2.2)), (q 7, .inl (cR 7, 536, .inl w74.2.1.2.1.1.1)), (q 8, .inl (cR 8, 67, .inl (upd w74.2.1.2.1.1.2 a1.toNatClampNeg (vp_nar .boolean (w74.2.1.2.1.1.2 a0.toNatClampNeg))))), (q 9, .inl (cR 9, 67, .inr (.inl (vp_updL w74.2.1.2.1.2 a1.toNatClampNeg (w74.2.1.2.1.2 a0.toNatClampNeg))))), (q 10, .inl (cR 10, 67, .inr (.inl w74.2.1.2.2.1.1))), (q 11, .inl (cR 11, 67, .inl w74.2.1.2.2.1.2)), (q 12, .inl (cR 12, 60, .inl w74.2.2.1.1.1.1)), (q 13, .inl (cR 13, 60, .inl w74.2.2.1.1.1.2)), (q 14, .inl (cR 14, 60, .inr (.inl w74.2.2.1.1.2))), (q 15, .inl (cR 15, 60, .inr (.inl w74.2.2.1.2.1.1))), (q 16, .inl (cR 16, 4, .inl w74.2.2.1.2.1.2)), (q 17, .inl (cR 17, 4, .inl w74.2.2.1.2.2)), (q 18, .inl (cR 18, 100, .inl w74.2.2.2.1.1.2)), (q 19, .inl (cR 19, 5, .inl w74.2.2.2.1.2)), (q 20, .inl (cR 20, 5, .inl w74.2.2.2.2.1)), (q 21, .inl (cR 21, 5, .inl w74.2.2.2.2.2))]) := hD
                                    refine lv_aload_n hx hb d_R_copy_132 rfl (lv_at hl 1 rfl) ?_
                                    refine va_get (D := D) (ci := 4) (v := .ref (q 10)) (C := R_R) (T := T_R) (N := 23) hx hb hts in_R hown hK hP (0) rfl rfl 9 (by decide) (hts _ k_437) (fun _ h9 => h9) rfl d_R_copy_133 ?_
                                    refine lv_iload_n hx hb d_R_copy_136 rfl (lv_at hl 3 rfl) ?_
                                    refine lv_aload_n hx hb d_R_copy_137 rfl (lv_at hl 1 rfl) ?_
                                    refine va_get (D := D) (ci := 4) (v := .ref (q 10)) (C := R_R) (T := T_R) (N := 23) hx hb hts in_R hown hK hP (0) rfl rfl 9 (by decide) (hts _ k_437) (fun _ h9 => h9) rfl d_R_copy_138 ?_
                                    refine lv_iload_n hx hb d_R_copy_141 rfl (lv_at hl 2 rfl) ?_
                                    by_cases ck_142 : zin a0 67
                                    · have hres := zi_p ck_142 hres
                                      refine va_lald hx hb hK hP 10 9 rfl rfl ck_142 d_R_copy_142 ?_
                                      by_cases ck_143 : zin a1 67
                                      · have hres := zi_p ck_143 hres
                                        refine va_last hx hb hK hP hD hS 10 9 rfl rfl ck_143 d_R_copy_143 (fun H locs hP hD hS => ?_)
                                        have hP : va_P D vwCl ([(q 0, .inr (4, [.ref (q 1), .ref (q 2), .ref (q 3), .ref (q 4), .ref (q 5), .ref (q 6), .ref (q 7), .ref (q 8), .ref (q 9), .ref (q 10), .ref (q 11), .int w74.2.1.2.2.2, .ref (q 12), .ref (q 13), .ref (q 14), .ref (q 15), .ref (q 16), .ref (q 17), .int w74.2.2.2.1.1.1, .ref (q 18), .ref (q 19), .ref (q 20), .ref (q 21)])), (q 1, .inl (cR 1, 67, .inr (.inl w74.2.1.1.1.1.1))), (q 2, .inl (cR 2, 67, .inl w74.2.1.1.1.1.2)), (q 3, .inl (cR 3, 67, .inl w74.2.1.1.1.2)), (q 4, .inl (cR 4, 67, .inl w74.2.1.1.2.1.1)), (q 5, .inl (cR 5, 67, .inr (.inl w74.2.1.1.2.1.2))), (q 6, .inl (cR 6, 67, .inl w74.2.1.1.2.2)), (q 7, .inl (cR 7, 536, .inl w74.2.1.2.1.1.1)), (q 8, .inl (cR 8, 67, .inl (upd w74.2.1.2.1.1.2 a1.toNatClampNeg (vp_nar .boolean (w74.2.1.2.1.1.2 a0.toNatClampNeg))))), (q 9, .inl (cR 9, 67, .inr (.inl (vp_updL w74.2.1.2.1.2 a1.toNatClampNeg (w74.2.1.2.1.2 a0.toNatClampNeg))))), (q 10, .inl (cR 10, 67, .inr (.inl (vp_updL w74.2.1.2.2.1.1 a1.toNatClampNeg (w74.2.1.2.2.1.1 a0.toNatClampNeg))))), (q 11, .inl (cR 11, 67, .inl w74.2.1.2.2.1.2)), (q 12, .inl (cR 12, 60, .inl w74.2.2.1.1.1.1)), (q 13, .inl (cR 13, 60, .inl w74.2.2.1.1.1.2)), (q 14, .inl (cR 14, 60, .inr (.inl w74.2.2.1.1.2))), (q 15, .inl (cR 15, 60, .inr (.inl w74.2.2.1.2.1.1))), (q 16, .inl (cR 16, 4, .inl w74.2.2.1.2.1.2)), (q 17, .inl (cR 17, 4, .inl w74.2.2.1.2.2)), (q 18, .inl (cR 18, 100, .inl w74.2.2.2.1.1.2)), (q 19, .inl (cR 19, 5, .inl w74.2.2.2.1.2)), (q 20, .inl (cR 20, 5, .inl w74.2.2.2.2.1)), (q 21, .inl (cR 21, 5, .inl w74.2.2.2.2.2))]) H := hP
                                        have hD : va_D A ([(q 0, .inr (4, [.ref (q 1), .ref (q 2), .ref (q 3), .ref (q 4), .ref (q 5), .ref (q 6), .ref (q 7), .ref (q 8), .ref (q 9), .ref (q 10), .ref (q 11), .int w74.2.1.2.2.2, .ref (q 12), .ref (q 13), .ref (q 14), .ref (q 15), .ref (q 16), .ref (q 17), .int w74.2.2.2.1.1.1, .ref (q 18), .ref (q 19), .ref (q 20), .ref (q 21)])), (q 1, .inl (cR 1, 67, .inr (.inl w74.2.1.1.1.1.1))), (q 2, .inl (cR 2, 67, .inl w74.2.1.1.1.1.2)), (q 3, .inl (cR 3, 67, .inl w74.2.1.1.1.2)), (q 4, .inl (cR 4, 67, .inl w74.2.1.1.2.1.1)), (q 5, .inl (cR 5, 67, .inr (.inl w74.2.1.1.2.1.2))), (q 6, .inl (cR 6, 67, .inl w74.2.1.1.2.2)), (q 7, .inl (cR 7, 536, .inl w74.2.1.2.1.1.1)), (q 8, .inl (cR 8, 67, .inl (upd w74.2.1.2.1.1.2 a1.toNatClampNeg (vp_nar .boolean (w74.2.1.2.1.1.2 a0.toNatClampNeg))))), (q 9, .inl (cR 9, 67, .inr (.inl (vp_updL w74.2.1.2.1.2 a1.toNatClampNeg (w74.2.1.2.1.2 a0.toNatClampNeg))))), (q 10, .inl (cR 10, 67, .inr (.inl (vp_updL w74.2.1.2.2.1.1 a1.toNatClampNeg (w74.2.1.2.2.1.1 a0.toNatClampNeg))))), (q 11, .inl (cR 11, 67, .inl w74.2.1.2.2.1.2)), (q 12, .inl (cR 12, 60, .inl w74.2.2.1.1.1.1)), (q 13, .inl (cR 13, 60, .inl w74.2.2.1.1.1.2)), (q 14, .inl (cR 14, 60, .inr (.inl w74.2.2.1.1.2))), (q 15, .inl (cR 15, 60, .inr (.inl w74.2.2.1.2.1.1))), (q 16, .inl (cR 16, 4, .inl w74.2.2.1.2.1.2)), (q 17, .inl (cR 17, 4, .inl w74.2.2.1.2.2)), (q 18, .inl (cR 18, 100, .inl w74.2.2.2.1.1.2)), (q 19, .inl (cR 19, 5, .inl w74.2.2.2.1.2)), (q 20, .inl (cR 20, 5, .inl w74.2.2.2.2.1)), (q 21, .inl (cR 21, 5, .inl w74.2.2.2.2.2))]) := hD
                                        refine lv_aload_n hx hb d_R_copy_144 rfl (lv_at hl 1 rfl) ?_
                                        refine va_get (D := D) (ci := 4) (v := .ref (q 11)) (C := R_R) (T := T_R) (N := 23) hx hb hts in_R hown hK hP (0) rfl rfl 10 (by decide) (hts _ k_438) (fun _ h9 => h9) rfl d_R_copy_145 ?_
                                        refine lv_iload_n hx hb d_R_copy_148 rfl (lv_at hl 3 rfl) ?_
                                        refine lv_aload_n hx hb d_R_copy_149 rfl (lv_at hl 1 rfl) ?_
                                        refine va_get (D := D) (ci := 4) (v := .ref (q 11)) (C := R_R) (T := T_R) (N := 23) hx hb hts in_R hown hK hP (0) rfl rfl 10 (by decide) (hts _ k_438) (fun _ h9 => h9) rfl d_R_copy_150 ?_
                                        refine lv_iload_n hx hb d_R_copy_153 rfl (lv_at hl 2 rfl) ?_
                                        by_cases ck_154 : zin a0 67
                                        · have hres := zi_p ck_154 hres
                                          refine va_iald hx hb hK hP 11 10 rfl rfl ck_154 d_R_copy_154 ?_
                                          by_cases ck_155 : zin a1 67
                                          · have hres := zi_p ck_155 hres
                                            refine va_iast hx hb hK hP hD hS 11 10 rfl rfl ck_155 d_R_copy_155 (fun H locs hP hD hS => ?_)
                                            have hP : va_P D vwCl ([(q 0, .inr (4, [.ref (q 1), .ref (q 2), .ref (q 3), .ref (q 4), .ref (q 5), .ref (q 6), .ref (q 7), .ref (q 8), .ref (q 9), .ref (q 10), .ref (q 11), .int w74.2.1.2.2.2, .ref (q 12), .ref (q 13), .ref (q 14), .ref (q 15), .ref (q 16), .ref (q 17), .int w74.2.2.2.1.1.1, .ref (q 18), .ref (q 19), .ref (q 20), .ref (q 21)])), (q 1, .inl (cR 1, 67, .inr (.inl w74.2.1.1.1.1.1))), (q 2, .inl (cR 2, 67, .inl w74.2.1.1.1.1.2)), (q 3, .inl (cR 3, 67, .inl w74.2.1.1.1.2)), (q 4, .inl (cR 4, 67, .inl w74.2.1.1.2.1.1)), (q 5, .inl (cR 5, 67, .inr (.inl w74.2.1.1.2.1.2))), (q 6, .inl (cR 6, 67, .inl w74.2.1.1.2.2)), (q 7, .inl (cR 7, 536, .inl w74.2.1.2.1.1.1)), (q 8, .inl (cR 8, 67, .inl (upd w74.2.1.2.1.1.2 a1.toNatClampNeg (vp_nar .boolean (w74.2.1.2.1.1.2 a0.toNatClampNeg))))), (q 9, .inl (cR 9, 67, .inr (.inl (vp_updL w74.2.1.2.1.2 a1.toNatClampNeg (w74.2.1.2.1.2 a0.toNatClampNeg))))), (q 10, .inl (cR 10, 67, .inr (.inl (vp_updL w74.2.1.2.2.1.1 a1.toNatClampNeg (w74.2.1.2.2.1.1 a0.toNatClampNeg))))), (q 11, .inl (cR 11, 67, .inl (upd w74.2.1.2.2.1.2 a1.toNatClampNeg (w74.2.1.2.2.1.2 a0.toNatClampNeg)))), (q 12, .inl (cR 12, 60, .inl w74.2.2.1.1.1.1)), (q 13, .inl (cR 13, 60, .inl w74.2.2.1.1.1.2)), (q 14, .inl (cR 14, 60, .inr (.inl w74.2.2.1.1.2))), (q 15, .inl (cR 15, 60, .inr (.inl w74.2.2.1.2.1.1))), (q 16, .inl (cR 16, 4, .inl w74.2.2.1.2.1.2)), (q 17, .inl (cR 17, 4, .inl w74.2.2.1.2.2)), (q 18, .inl (cR 18, 100, .inl w74.2.2.2.1.1.2)), (q 19, .inl (cR 19, 5, .inl w74.2.2.2.1.2)), (q 20, .inl (cR 20, 5, .inl w74.2.2.2.2.1)), (q 21, .inl (cR 21, 5, .inl w74.2.2.2.2.2))]) H := hP
                                            have hD : va_D A ([(q 0, .inr (4, [.ref (q 1), .ref (q 2), .ref (q 3), .ref (q 4), .ref (q 5), .ref (q 6), .ref (q 7), .ref (q 8), .ref (q 9), .ref (q 10), .ref (q 11), .int w74.2.1.2.2.2, .ref (q 12), .ref (q 13), .ref (q 14), .ref (q 15), .ref (q 16), .ref (q 17), .int w74.2.2.2.1.1.1, .ref (q 18), .ref (q 19), .ref (q 20), .ref (q 21)])), (q 1, .inl (cR 1, 67, .inr (.inl w74.2.1.1.1.1.1))), (q 2, .inl (cR 2, 67, .inl w74.2.1.1.1.1.2)), (q 3, .inl (cR 3, 67, .inl w74.2.1.1.1.2)), (q 4, .inl (cR 4, 67, .inl w74.2.1.1.2.1.1)), (q 5, .inl (cR 5, 67, .inr (.inl w74.2.1.1.2.1.2))), (q 6, .inl (cR 6, 67, .inl w74.2.1.1.2.2)), (q 7, .inl (cR 7, 536, .inl w74.2.1.2.1.1.1)), (q 8, .inl (cR 8, 67, .inl (upd w74.2.1.2.1.1.2 a1.toNatClampNeg (vp_nar .boolean (w74.2.1.2.1.1.2 a0.toNatClampNeg))))), (q 9, .inl (cR 9, 67, .inr (.inl (vp_updL w74.2.1.2.1.2 a1.toNatClampNeg (w74.2.1.2.1.2 a0.toNatClampNeg))))), (q 10, .inl (cR 10, 67, .inr (.inl (vp_updL w74.2.1.2.2.1.1 a1.toNatClampNeg (w74.2.1.2.2.1.1 a0.toNatClampNeg))))), (q 11, .inl (cR 11, 67, .inl (upd w74.2.1.2.2.1.2 a1.toNatClampNeg (w74.2.1.2.2.1.2 a0.toNatClampNeg)))), (q 12, .inl (cR 12, 60, .inl w74.2.2.1.1.1.1)), (q 13, .inl (cR 13, 60, .inl w74.2.2.1.1.1.2)), (q 14, .inl (cR 14, 60, .inr (.inl w74.2.2.1.1.2))), (q 15, .inl (cR 15, 60, .inr (.inl w74.2.2.1.2.1.1))), (q 16, .inl (cR 16, 4, .inl w74.2.2.1.2.1.2)), (q 17, .inl (cR 17, 4, .inl w74.2.2.1.2.2)), (q 18, .inl (cR 18, 100, .inl w74.2.2.2.1.1.2)), (q 19, .inl (cR 19, 5, .inl w74.2.2.2.1.2)), (q 20, .inl (cR 20, 5, .inl w74.2.2.2.2.1)), (q 21, .inl (cR 21, 5, .inl w74.2.2.2.2.2))]) := hD
                                            obtain rfl := Option.some.inj hres
                                            exact W.vret hx hb hr (fun t ht hW => ⟨⟨(), rfl, trivial, by rw [ht]; exact hP, va_K.moved hW.alike hK, hD⟩, hS.F ht⟩) hS.2.2 d_R_copy_156
                                          · exact absurd (zi_n ck_155 hres) (by simp)
                                        · exact absurd (zi_n ck_154 hres) (by simp)
                                      · exact absurd (zi_n ck_143 hres) (by simp)
                                    · exact absurd (zi_n ck_142 hres) (by simp)
                                  · exact absurd (zi_n ck_131 hres) (by simp)
                                · exact absurd (zi_n ck_130 hres) (by simp)
                              · exact absurd (zi_n ck_119 hres) (by simp)
                            · exact absurd (zi_n ck_118 hres) (by simp)
                          have hloop74 : ∀ (n : Nat) (x74_3 : Int32) (g74 : RSt) (H : Heap) (locs : List Loc), va_P D vwCl (zR q cR g74) H → va_D A (zR q cR g74) → va_S A s.heap H locs → ∀ (ls : Array Slot), lv_has ls 4 [(3, .int x74_3), (0, .ref (q 0)), (1, .int a0), (2, .int a1)] → L_R_copy_74 a0 a1 n x74_3 g74 = some w74 → W p l e (headSpec w_R_copy ({ frames := 0, cells := 0, slots := 0, locals := 0 } : Room)).room s m ([.ref (q 0), .int a0, .int a1].toArray) below meth c H locs 0 0 (MQ below (qd_R_copy D tys q cR ρ a0 a1 v A) ([.ref (q 0), .int a0, .int a1].toArray) s 0 0 A) (F0 m 74 ls []) := by
                            intro n
                            induction n with
                            | zero => intro x74_3 g74 H locs hP hD hS ls hl hL74; cases hL74
                            | succ n ih =>
                              intro x74_3 g74 H locs hP hD hS ls hl hL74
                              rw [L_R_copy_74] at hL74
                              refine lv_iload_n hx hb d_R_copy_74 rfl (lv_at hl 0 rfl) ?_
                              refine lv_bipush (v := 8) hx hb d_R_copy_75 (by decide) ?_
                              refine lv_icmp_ge (tgt := 108) hx hb d_R_copy_77 (by decide) (fun c_77 => ?_) (fun c_77 => ?_)
                              · have hL74 := zi_p c_77 hL74
                                obtain rfl := Option.some.inj hL74
                                exact hk74 _ _ hP hD hS ls (lv_sub hl [0, 1, 2, 3] rfl)
                              · have hL74 := zi_n c_77 hL74
                                refine lv_aload_n hx hb d_R_copy_80 rfl (lv_at hl 1 rfl) ?_
                                refine va_get (D := D) (ci := 4) (v := .ref (q 7)) (C := R_R) (T := T_R) (N := 23) hx hb hts in_R hown hK hP (0) rfl rfl 6 (by decide) (hts _ k_434) (fun _ h9 => h9) rfl d_R_copy_81 ?_
                                refine lv_bipush (v := 8) hx hb d_R_copy_84 (by decide) ?_
                                refine lv_iload_n hx hb d_R_copy_86 rfl (lv_at hl 3 rfl) ?_
                                refine lv_imul hx hb d_R_copy_87 ?_
                                refine lv_iload_n hx hb d_R_copy_88 rfl (lv_at hl 0 rfl) ?_
                                refine lv_iadd hx hb d_R_copy_89 ?_
                                refine lv_aload_n hx hb d_R_copy_90 rfl (lv_at hl 1 rfl) ?_
                                refine va_get (D := D) (ci := 4) (v := .ref (q 7)) (C := R_R) (T := T_R) (N := 23) hx hb hts in_R hown hK hP (0) rfl rfl 6 (by decide) (hts _ k_434) (fun _ h9 => h9) rfl d_R_copy_91 ?_
                                refine lv_bipush (v := 8) hx hb d_R_copy_94 (by decide) ?_
                                refine lv_iload_n hx hb d_R_copy_96 rfl (lv_at hl 2 rfl) ?_
                                refine lv_imul hx hb d_R_copy_97 ?_
                                refine lv_iload_n hx hb d_R_copy_98 rfl (lv_at hl 0 rfl) ?_
                                refine lv_iadd hx hb d_R_copy_99 ?_
                                by_cases ck_100 : zin ((8 * a0) + x74_3) 536
                                · have hL74 := zi_p ck_100 hL74
                                  refine va_iald hx hb hK hP 7 6 rfl rfl ck_100 d_R_copy_100 ?_
                                  by_cases ck_101 : zin ((8 * a1) + x74_3) 536
                                  · have hL74 := zi_p ck_101 hL74
                                    refine va_iast hx hb hK hP hD hS 7 6 rfl rfl ck_101 d_R_copy_101 (fun H locs hP hD hS => ?_)
                                    have hP : va_P D vwCl ([(q 0, .inr (4, [.ref (q 1), .ref (q 2), .ref (q 3), .ref (q 4), .ref (q 5), .ref (q 6), .ref (q 7), .ref (q 8), .ref (q 9), .ref (q 10), .ref (q 11), .int g74.1.2.2.2, .ref (q 12), .ref (q 13), .ref (q 14), .ref (q 15), .ref (q 16), .ref (q 17), .int g74.2.2.1.1.1, .ref (q 18), .ref (q 19), .ref (q 20), .ref (q 21)])), (q 1, .inl (cR 1, 67, .inr (.inl g74.1.1.1.1.1))), (q 2, .inl (cR 2, 67, .inl g74.1.1.1.1.2)), (q 3, .inl (cR 3, 67, .inl g74.1.1.1.2)), (q 4, .inl (cR 4, 67, .inl g74.1.1.2.1.1)), (q 5, .inl (cR 5, 67, .inr (.inl g74.1.1.2.1.2))), (q 6, .inl (cR 6, 67, .inl g74.1.1.2.2)), (q 7, .inl (cR 7, 536, .inl (upd g74.1.2.1.1.1 ((8 * a1) + x74_3).toNatClampNeg (g74.1.2.1.1.1 ((8 * a0) + x74_3).toNatClampNeg)))), (q 8, .inl (cR 8, 67, .inl g74.1.2.1.1.2)), (q 9, .inl (cR 9, 67, .inr (.inl g74.1.2.1.2))), (q 10, .inl (cR 10, 67, .inr (.inl g74.1.2.2.1.1))), (q 11, .inl (cR 11, 67, .inl g74.1.2.2.1.2)), (q 12, .inl (cR 12, 60, .inl g74.2.1.1.1.1)), (q 13, .inl (cR 13, 60, .inl g74.2.1.1.1.2)), (q 14, .inl (cR 14, 60, .inr (.inl g74.2.1.1.2))), (q 15, .inl (cR 15, 60, .inr (.inl g74.2.1.2.1.1))), (q 16, .inl (cR 16, 4, .inl g74.2.1.2.1.2)), (q 17, .inl (cR 17, 4, .inl g74.2.1.2.2)), (q 18, .inl (cR 18, 100, .inl g74.2.2.1.1.2)), (q 19, .inl (cR 19, 5, .inl g74.2.2.1.2)), (q 20, .inl (cR 20, 5, .inl g74.2.2.2.1)), (q 21, .inl (cR 21, 5, .inl g74.2.2.2.2))]) H := hP
                                    have hD : va_D A ([(q 0, .inr (4, [.ref (q 1), .ref (q 2), .ref (q 3), .ref (q 4), .ref (q 5), .ref (q 6), .ref (q 7), .ref (q 8), .ref (q 9), .ref (q 10), .ref (q 11), .int g74.1.2.2.2, .ref (q 12), .ref (q 13), .ref (q 14), .ref (q 15), .ref (q 16), .ref (q 17), .int g74.2.2.1.1.1, .ref (q 18), .ref (q 19), .ref (q 20), .ref (q 21)])), (q 1, .inl (cR 1, 67, .inr (.inl g74.1.1.1.1.1))), (q 2, .inl (cR 2, 67, .inl g74.1.1.1.1.2)), (q 3, .inl (cR 3, 67, .inl g74.1.1.1.2)), (q 4, .inl (cR 4, 67, .inl g74.1.1.2.1.1)), (q 5, .inl (cR 5, 67, .inr (.inl g74.1.1.2.1.2))), (q 6, .inl (cR 6, 67, .inl g74.1.1.2.2)), (q 7, .inl (cR 7, 536, .inl (upd g74.1.2.1.1.1 ((8 * a1) + x74_3).toNatClampNeg (g74.1.2.1.1.1 ((8 * a0) + x74_3).toNatClampNeg)))), (q 8, .inl (cR 8, 67, .inl g74.1.2.1.1.2)), (q 9, .inl (cR 9, 67, .inr (.inl g74.1.2.1.2))), (q 10, .inl (cR 10, 67, .inr (.inl g74.1.2.2.1.1))), (q 11, .inl (cR 11, 67, .inl g74.1.2.2.1.2)), (q 12, .inl (cR 12, 60, .inl g74.2.1.1.1.1)), (q 13, .inl (cR 13, 60, .inl g74.2.1.1.1.2)), (q 14, .inl (cR 14, 60, .inr (.inl g74.2.1.1.2))), (q 15, .inl (cR 15, 60, .inr (.inl g74.2.1.2.1.1))), (q 16, .inl (cR 16, 4, .inl g74.2.1.2.1.2)), (q 17, .inl (cR 17, 4, .inl g74.2.1.2.2)), (q 18, .inl (cR 18, 100, .inl g74.2.2.1.1.2)), (q 19, .inl (cR 19, 5, .inl g74.2.2.1.2)), (q 20, .inl (cR 20, 5, .inl g74.2.2.2.1)), (q 21, .inl (cR 21, 5, .inl g74.2.2.2.2))]) := hD
                                    refine lv_iinc (v := (x74_3 + 1)) (lv' := [(3, .int (x74_3 + 1)), (0, .ref (q 0)), (1, .int a0), (2, .int a1)]) hx hb d_R_copy_102 hl (k := 0) rfl rfl (by decide) rfl (fun ls hl => ?_)
                                    refine lv_goto (tgt := 74) hx hb d_R_copy_105 (by decide) ?_
                                    exact ih (x74_3 + 1) (((((g74.1.1.1.1.1, g74.1.1.1.1.2), g74.1.1.1.2), ((g74.1.1.2.1.1, g74.1.1.2.1.2), g74.1.1.2.2)), ((((upd g74.1.2.1.1.1 ((8 * a1) + x74_3).toNatClampNeg (g74.1.2.1.1.1 ((8 * a0) + x74_3).toNatClampNeg)), g74.1.2.1.1.2), g74.1.2.1.2), ((g74.1.2.2.1.1, g74.1.2.2.1.2), g74.1.2.2.2))), ((((g74.2.1.1.1.1, g74.2.1.1.1.2), g74.2.1.1.2), ((g74.2.1.2.1.1, g74.2.1.2.1.2), g74.2.1.2.2)), (((g74.2.2.1.1.1, g74.2.2.1.1.2), g74.2.2.1.2), (g74.2.2.2.1, g74.2.2.2.2)))) _ _ hP hD hS ls (lv_sub hl [0, 1, 2, 3] rfl) hL74
                                  · exact absurd (zi_n ck_101 hL74) (by simp)
                                · exact absurd (zi_n ck_100 hL74) (by simp)
                          exact hloop74 zfuel 0 ((((((vp_updL ρ.1.1.1.1.1 a1.toNatClampNeg (ρ.1.1.1.1.1 a0.toNatClampNeg)), (upd ρ.1.1.1.1.2 a1.toNatClampNeg (ρ.1.1.1.1.2 a0.toNatClampNeg))), (upd ρ.1.1.1.2 a1.toNatClampNeg (ρ.1.1.1.2 a0.toNatClampNeg))), (((upd ρ.1.1.2.1.1 a1.toNatClampNeg (ρ.1.1.2.1.1 a0.toNatClampNeg)), (vp_updL ρ.1.1.2.1.2 a1.toNatClampNeg (ρ.1.1.2.1.2 a0.toNatClampNeg))), (upd ρ.1.1.2.2 a1.toNatClampNeg (ρ.1.1.2.2 a0.toNatClampNeg)))), (((ρ.1.2.1.1.1, ρ.1.2.1.1.2), ρ.1.2.1.2), ((ρ.1.2.2.1.1, ρ.1.2.2.1.2), ρ.1.2.2.2))), ((((ρ.2.1.1.1.1, ρ.2.1.1.1.2), ρ.2.1.1.2), ((ρ.2.1.2.1.1, ρ.2.1.2.1.2), ρ.2.1.2.2)), (((ρ.2.2.1.1.1, ρ.2.2.1.1.2), ρ.2.2.1.2), (ρ.2.2.2.1, ρ.2.2.2.2)))) _ _ hP hD hS ls (lv_sub hl [0, 1, 2, 3] rfl) hL74
                        · exact absurd (zi_n ck_71 hres) (by simp)
                      · exact absurd (zi_n ck_70 hres) (by simp)
                    · exact absurd (zi_n ck_59 hres) (by simp)
                  · exact absurd (zi_n ck_58 hres) (by simp)
                · exact absurd (zi_n ck_47 hres) (by simp)
              · exact absurd (zi_n ck_46 hres) (by simp)
            · exact absurd (zi_n ck_35 hres) (by simp)
          · exact absurd (zi_n ck_34 hres) (by simp)
        · exact absurd (zi_n ck_23 hres) (by simp)
      · exact absurd (zi_n ck_22 hres) (by simp)
    · exact absurd (zi_n ck_11 hres) (by simp)
  · exact absurd (zi_n ck_10 hres) (by simp)

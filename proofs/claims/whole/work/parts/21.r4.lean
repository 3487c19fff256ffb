abbrev qd_R_mergeQueues (D : va_G) (tys : List (ClassId × FieldType)) (q : Nat → Nat) (cR : Nat → ClassId) (ρ : RSt) (a0 : Int32) (a1 : Int32) (a2 : Int32) (v : Int32 × RSt) (A : Nat → Prop) : Array Value → State → Outcome → State → Prop := va_Qi (fun (r : Int32) (_ : Unit) => r = v.1) (fun _ t => zwd D (zRt cR) (A) (zR q cR v.2) t) (A)

def L_R_mergeQueues_129 (a0 : Int32) (a1 : Int32) (a2 : Int32) (x89_5 : Int32) (g89 : RSt) (x103_8 : Int32) : Nat → Int32 → Int32 → Option (Int32 × Int32)
  | 0, _, _ => none
  | n + 1, x129_10, x129_9 =>
    if 16 ≤ x129_10 then
      some (x129_10, x129_9)
    else
      if x129_9 = 0 then
        L_R_mergeQueues_129 a0 a1 a2 x89_5 g89 x103_8 n (x129_10 + 1) 0
      else
        if ((x89_5 >>> (x129_10 &&& 31)) &&& 1) = 1 then
          if x129_10 = x103_8 then
            L_R_mergeQueues_129 a0 a1 a2 x89_5 g89 x103_8 n (x129_10 + 1) 1
          else
            Option.bind (f_R_goesBefore g89 a0 a1 a2 x129_10 x103_8) (fun v167 =>
              if v167 = 0 then
                L_R_mergeQueues_129 a0 a1 a2 x89_5 g89 x103_8 n (x129_10 + 1) 1
              else
                L_R_mergeQueues_129 a0 a1 a2 x89_5 g89 x103_8 n (x129_10 + 1) 0)
        else
          L_R_mergeQueues_129 a0 a1 a2 x89_5 g89 x103_8 n (x129_10 + 1) 1
def J_R_mergeQueues_124 (a0 : Int32) (a1 : Int32) (a2 : Int32) (x89_5 : Int32) (g89 : RSt) (x103_8 : Int32) (x103_7 : Int32) (lc103 : Int32 → Int32 → Option (Int32 × Int32)) (j124_s0 : Int32) : Option (Int32 × Int32) :=
  Option.bind (L_R_mergeQueues_129 a0 a1 a2 x89_5 g89 x103_8 zfuel 0 j124_s0) (fun w129 =>
    if w129.2 = 0 then
      lc103 (x103_8 + (-1)) x103_7
    else
      lc103 (x103_8 + (-1)) x103_8)
def L_R_mergeQueues_103 (a0 : Int32) (a1 : Int32) (a2 : Int32) (x89_5 : Int32) (g89 : RSt) : Nat → Int32 → Int32 → Option (Int32 × Int32)
  | 0, _, _ => none
  | n + 1, x103_8, x103_7 =>
    if x103_8 < 0 then
      some (x103_8, x103_7)
    else
      if ((x89_5 >>> (x103_8 &&& 31)) &&& 1) = 1 then
        J_R_mergeQueues_124 a0 a1 a2 x89_5 g89 x103_8 x103_7 (L_R_mergeQueues_103 a0 a1 a2 x89_5 g89 n) 1
      else
        J_R_mergeQueues_124 a0 a1 a2 x89_5 g89 x103_8 x103_7 (L_R_mergeQueues_103 a0 a1 a2 x89_5 g89 n) 0
def L_R_mergeQueues_89 (a0 : Int32) (a1 : Int32) (a2 : Int32) (w9 : Int32 × Int32 × Int32) : Nat → Int32 → Int32 → RSt → Option ((Int32 × RSt) ⊕ (Int32 × Int32 × RSt))
  | 0, _, _, _ => none
  | n + 1, x89_6, x89_5, g89 =>
    if w9.2.2 ≤ x89_6 then
      some (Sum.inr (x89_6, x89_5, g89))
    else
      Option.bind (L_R_mergeQueues_103 a0 a1 a2 x89_5 g89 zfuel 15 (-1)) (fun w103 =>
        if 0 ≤ w103.2 then
          if zin (520 + x89_6) 536 then
            L_R_mergeQueues_89 a0 a1 a2 w9 n (x89_6 + 1) (x89_5 &&& ((1 <<< (w103.2 &&& 31)) ^^^ (-1))) (((((g89.1.1.1.1.1, g89.1.1.1.1.2), g89.1.1.1.2), ((g89.1.1.2.1.1, g89.1.1.2.1.2), g89.1.1.2.2)), ((((upd g89.1.2.1.1.1 (520 + x89_6).toNatClampNeg w103.2), g89.1.2.1.1.2), g89.1.2.1.2), ((g89.1.2.2.1.1, g89.1.2.2.1.2), g89.1.2.2.2))), ((((g89.2.1.1.1.1, g89.2.1.1.1.2), g89.2.1.1.2), ((g89.2.1.2.1.1, g89.2.1.2.1.2), g89.2.1.2.2)), (((g89.2.2.1.1.1, g89.2.2.1.1.2), g89.2.2.1.2), (g89.2.2.2.1, g89.2.2.2.2))))
          else
            none
        else
          some (Sum.inl (0, g89)))
def J_R_mergeQueues_41 (x9_6 : Int32) (x9_5 : Int32) (v22 : Int32) (lc9 : Int32 → Int32 → Int32 → Option (Int32 × Int32 × Int32)) (j41_s0 : Int32) : Option (Int32 × Int32 × Int32) :=
  if v22 = 0 then
    lc9 (x9_6 + 1) x9_5 j41_s0
  else
    lc9 (x9_6 + 1) (x9_5 ||| (1 <<< (x9_6 &&& 31))) j41_s0
def L_R_mergeQueues_9 (ρ : RSt) (a0 : Int32) (a1 : Int32) (a2 : Int32) : Nat → Int32 → Int32 → Int32 → Option (Int32 × Int32 × Int32)
  | 0, _, _, _ => none
  | n + 1, x9_6, x9_5, x9_4 =>
    if 16 ≤ x9_6 then
      some (x9_6, x9_5, x9_4)
    else
      Option.bind (f_R_member ρ a0 a1 a2 x9_6) (fun v22 =>
        if v22 = 0 then
          J_R_mergeQueues_41 x9_6 x9_5 v22 (L_R_mergeQueues_9 ρ a0 a1 a2 n) x9_4
        else
          J_R_mergeQueues_41 x9_6 x9_5 v22 (L_R_mergeQueues_9 ρ a0 a1 a2 n) (x9_4 + 1))
def f_R_mergeQueues (ρ : RSt) (a0 : Int32) (a1 : Int32) (a2 : Int32) : Option (Int32 × RSt) :=
  Option.bind (L_R_mergeQueues_9 ρ a0 a1 a2 zfuel 0 0 0) (fun w9 =>
    if w9.2.2 ≤ 8 then
      Option.bind (L_R_mergeQueues_89 a0 a1 a2 w9 zfuel 0 w9.2.1 (((((ρ.1.1.1.1.1, ρ.1.1.1.1.2), ρ.1.1.1.2), ((ρ.1.1.2.1.1, ρ.1.1.2.1.2), (upd ρ.1.1.2.2 ((65 : Int32).toNatClampNeg) w9.2.2))), (((ρ.1.2.1.1.1, ρ.1.2.1.1.2), ρ.1.2.1.2), ((ρ.1.2.2.1.1, ρ.1.2.2.1.2), ρ.1.2.2.2))), ((((ρ.2.1.1.1.1, ρ.2.1.1.1.2), ρ.2.1.1.2), ((ρ.2.1.2.1.1, ρ.2.1.2.1.2), ρ.2.1.2.2)), (((ρ.2.2.1.1.1, ρ.2.2.1.1.2), ρ.2.2.1.2), (ρ.2.2.2.1, ρ.2.2.2.2))))) (fun w89 =>
        zs_m w89 (fun r => some r) (fun u89 =>
          some (1, u89.2.2)))
    else
      some (0, ρ))
set_option maxHeartbeats 4000000 in
set_option maxRecDepth 100000 in
theorem c_R_mergeQueues (l : Launch) (D : va_G) (tys : List (ClassId × FieldType)) (sz : Nat) (q : Nat → Nat) (cR : Nat → ClassId) (ρ : RSt) (a0 : Int32) (a1 : Int32) (a2 : Int32) (v : Int32 × RSt) (hres : f_R_mergeQueues ρ a0 a1 a2 = some v) : Met l y_R_mergeQueues w_R_mergeQueues ({ frames := 3, cells := 0, slots := 0, locals := 75 } : Room) (va_Pc ([.ref (q 0), .int a0, .int a1, .int a2]) (zrw D (zRt cR) sz (zR q cR ρ))) (qd_R_mergeQueues D tys q cR ρ a0 a1 a2 v (va_A (zR q cR ρ) sz)) 0 0 (va_A (zR q cR ρ) sz) := by
  refine Met.ofW (cc := b_R_mergeQueues) (maxL := 11) (ret := (some .boolean)) (by decide) rfl ?_
  intro p e s m args below meth c s₁ B hml hv
  obtain ⟨rfl, hsz, hP, hK, hD0, hN⟩ := hv
  have hx := B.exec
  have hb := B.bytes
  have hr := B.returns
  have hts : ∀ w ∈ zt, w.before ([.ref (q 0), .int a0, .int a1, .int a2].toArray) s = true := fun w h => atoms_spec (ws := w_R_mergeQueues) B.pre w (List.mem_cons_of_mem _ h)
  have hown : s.vm.findClass R_R = some m.cls := findClass_of_methodNamed B.named
  have hlocks := B.notSynchronized
  subst hsz
  have hD := hD0.self (sz := s.heap.size)
  generalize hAe : va_A (zR q cR ρ) s.heap.size = A at hD ⊢
  have hA : ∀ q : Nat, s.heap.size ≤ q → A q := fun q h => by rw [← hAe]; exact Or.inr h
  have hS : va_S A s.heap s.heap [] := va_S.rf
  have hP : va_P D vwCl (zR q cR ρ) s.heap := hP
  have hD : va_D A (zR q cR ρ) := hD
  have hl := lv_entry ([.ref (q 0), .int a0, .int a1, .int a2]) (n := 11) (Nat.le_of_ble_eq_true rfl)
  rw [lg_entry_eq]
  generalize (lg_sl ([.ref (q 0), .int a0, .int a1, .int a2]) ++ List.replicate (11 - (lg_sl ([.ref (q 0), .int a0, .int a1, .int a2])).length) Slot.unset).toArray = ls at hl ⊢
  have hl : lv_has ls 11 [(0, .ref (q 0)), (1, .int a0), (2, .int a1), (3, .int a2)] := hl
  unfold f_R_mergeQueues at hres
  refine lv_iconst (v := 0) hx hb d_R_mergeQueues_0 (by decide) ?_
  refine lv_istore (lv' := [(4, .int 0), (0, .ref (q 0)), (1, .int a0), (2, .int a1), (3, .int a2)]) hx hb d_R_mergeQueues_1 hl (by decide) rfl (fun ls hl => ?_)
  refine lv_iconst (v := 0) hx hb d_R_mergeQueues_3 (by decide) ?_
  refine lv_istore (lv' := [(5, .int 0), (4, .int 0), (0, .ref (q 0)), (1, .int a0), (2, .int a1), (3, .int a2)]) hx hb d_R_mergeQueues_4 hl (by decide) rfl (fun ls hl => ?_)
  refine lv_iconst (v := 0) hx hb d_R_mergeQueues_6 (by decide) ?_
  refine lv_istore (lv' := [(6, .int 0), (5, .int 0), (4, .int 0), (0, .ref (q 0)), (1, .int a0), (2, .int a1), (3, .int a2)]) hx hb d_R_mergeQueues_7 hl (by decide) rfl (fun ls hl => ?_)
  obtain ⟨w9, hL9, hres⟩ := zo_b hres
  have hk9 : ∀ (H : Heap) (locs : List Loc), va_P D vwCl (zR q cR ρ) H → va_D A (zR q cR ρ) → va_S A s.heap H locs → ∀ (ls : Array Slot), lv_has ls 11 [(6, .int w9.1), (5, .int w9.2.1), (4, .int w9.2.2), (0, .ref (q 0)), (1, .int a0), (2, .int a1), (3, .int a2)] → W p l e (headSpec w_R_mergeQueues ({ frames := 3, cells := 0, slots := 0, locals := 75 } : Room)).room s m ([.ref (q 0), .int a0, .int a1, .int a2].toArray) below meth c H locs 0 0 (MQ below (qd_R_mergeQueues D tys q cR ρ a0 a1 a2 v A) ([.ref (q 0), .int a0, .int a1, .int a2].toArray) s 0 0 A) (F0 m 68 ls []) := by
    intro H locs hP hD hS ls hl
    refine lv_iload hx hb d_R_mergeQueues_68 (lv_at hl 2 rfl) ?_
    refine lv_bipush (v := 8) hx hb d_R_mergeQueues_70 (by decide) ?_
    refine lv_icmp_le (tgt := 77) hx hb d_R_mergeQueues_72 (by decide) (fun c_72 => ?_) (fun c_72 => ?_)
    · have hres := zi_p c_72 hres
      refine lv_aload_n hx hb d_R_mergeQueues_77 rfl (lv_at hl 3 rfl) ?_
      refine va_get (D := D) (ci := 4) (v := .ref (q 6)) (C := R_R) (T := T_R) (N := 23) hx hb hts in_R hown hK hP (0) rfl rfl 5 (by decide) (hts _ k_433) (fun _ h9 => h9) rfl d_R_mergeQueues_78 ?_
      refine lv_bipush (v := 65) hx hb d_R_mergeQueues_81 (by decide) ?_
      refine lv_iload hx hb d_R_mergeQueues_83 (lv_at hl 2 rfl) ?_
      refine va_iast hx hb hK hP hD hS 6 5 rfl rfl (show zin 65 67 by decide) d_R_mergeQueues_85 (fun H locs hP hD hS => ?_)
      have hP : va_P D vwCl ([(q 0, .inr (4, [.ref (q 1), .ref (q 2), .ref (q 3), .ref (q 4), .ref (q 5), .ref (q 6), .ref (q 7), .ref (q 8), .ref (q 9), .ref (q 10), .ref (q 11), .int ρ.1.2.2.2, .ref (q 12), .ref (q 13), .ref (q 14), .ref (q 15), .ref (q 16), .ref (q 17), .int ρ.2.2.1.1.1, .ref (q 18), .ref (q 19), .ref (q 20), .ref (q 21)])), (q 1, .inl (cR 1, 67, .inr (.inl ρ.1.1.1.1.1))), (q 2, .inl (cR 2, 67, .inl ρ.1.1.1.1.2)), (q 3, .inl (cR 3, 67, .inl ρ.1.1.1.2)), (q 4, .inl (cR 4, 67, .inl ρ.1.1.2.1.1)), (q 5, .inl (cR 5, 67, .inr (.inl ρ.1.1.2.1.2))), (q 6, .inl (cR 6, 67, .inl (upd ρ.1.1.2.2 ((65 : Int32).toNatClampNeg) w9.2.2))), (q 7, .inl (cR 7, 536, .inl ρ.1.2.1.1.1)), (q 8, .inl (cR 8, 67, .inl ρ.1.2.1.1.2)), (q 9, .inl (cR 9, 67, .inr (.inl ρ.1.2.1.2))), (q 10, .inl (cR 10, 67, .inr (.inl ρ.1.2.2.1.1))), (q 11, .inl (cR 11, 67, .inl ρ.1.2.2.1.2)), (q 12, .inl (cR 12, 60, .inl ρ.2.1.1.1.1)), (q 13, .inl (cR 13, 60, .inl ρ.2.1.1.1.2)), (q 14, .inl (cR 14, 60, .inr (.inl ρ.2.1.1.2))), (q 15, .inl (cR 15, 60, .inr (.inl ρ.2.1.2.1.1))), (q 16, .inl (cR 16, 4, .inl ρ.2.1.2.1.2)), (q 17, .inl (cR 17, 4, .inl ρ.2.1.2.2)), (q 18, .inl (cR 18, 100, .inl ρ.2.2.1.1.2)), (q 19, .inl (cR 19, 5, .inl ρ.2.2.1.2)), (q 20, .inl (cR 20, 5, .inl ρ.2.2.2.1)), (q 21, .inl (cR 21, 5, .inl ρ.2.2.2.2))]) H := hP
      have hD : va_D A ([(q 0, .inr (4, [.ref (q 1), .ref (q 2), .ref (q 3), .ref (q 4), .ref (q 5), .ref (q 6), .ref (q 7), .ref (q 8), .ref (q 9), .ref (q 10), .ref (q 11), .int ρ.1.2.2.2, .ref (q 12), .ref (q 13), .ref (q 14), .ref (q 15), .ref (q 16), .ref (q 17), .int ρ.2.2.1.1.1, .ref (q 18), .ref (q 19), .ref (q 20), .ref (q 21)])), (q 1, .inl (cR 1, 67, .inr (.inl ρ.1.1.1.1.1))), (q 2, .inl (cR 2, 67, .inl ρ.1.1.1.1.2)), (q 3, .inl (cR 3, 67, .inl ρ.1.1.1.2)), (q 4, .inl (cR 4, 67, .inl ρ.1.1.2.1.1)), (q 5, .inl (cR 5, 67, .inr (.inl ρ.1.1.2.1.2))), (q 6, .inl (cR 6, 67, .inl (upd ρ.1.1.2.2 ((65 : Int32).toNatClampNeg) w9.2.2))), (q 7, .inl (cR 7, 536, .inl ρ.1.2.1.1.1)), (q 8, .inl (cR 8, 67, .inl ρ.1.2.1.1.2)), (q 9, .inl (cR 9, 67, .inr (.inl ρ.1.2.1.2))), (q 10, .inl (cR 10, 67, .inr (.inl ρ.1.2.2.1.1))), (q 11, .inl (cR 11, 67, .inl ρ.1.2.2.1.2)), (q 12, .inl (cR 12, 60, .inl ρ.2.1.1.1.1)), (q 13, .inl (cR 13, 60, .inl ρ.2.1.1.1.2)), (q 14, .inl (cR 14, 60, .inr (.inl ρ.2.1.1.2))), (q 15, .inl (cR 15, 60, .inr (.inl ρ.2.1.2.1.1))), (q 16, .inl (cR 16, 4, .inl ρ.2.1.2.1.2)), (q 17, .inl (cR 17, 4, .inl ρ.2.1.2.2)), (q 18, .inl (cR 18, 100, .inl ρ.2.2.1.1.2)), (q 19, .inl (cR 19, 5, .inl ρ.2.2.1.2)), (q 20, .inl (cR 20, 5, .inl ρ.2.2.2.1)), (q 21, .inl (cR 21, 5, .inl ρ.2.2.2.2))]) := hD
      refine lv_iconst (v := 0) hx hb d_R_mergeQueues_86 (by decide) ?_
      refine lv_istore (lv' := [(6, .int 0), (5, .int w9.2.1), (4, .int w9.2.2), (0, .ref (q 0)), (1, .int a0), (2, .int a1), (3, .int a2)]) hx hb d_R_mergeQueues_87 hl (by decide) rfl (fun ls hl => ?_)
      obtain ⟨w89, hL89, hres⟩ := zo_b hres
      have hk89 : ∀ (u89 : Int32 × Int32 × RSt), w89 = Sum.inr u89 → ∀ (H : Heap) (locs : List Loc), va_P D vwCl (zR q cR u89.2.2) H → va_D A (zR q cR u89.2.2) → va_S A s.heap H locs → ∀ (ls : Array Slot), lv_has ls 11 [(6, .int u89.1), (5, .int u89.2.1), (4, .int w9.2.2), (0, .ref (q 0)), (1, .int a0), (2, .int a1), (3, .int a2)] → W p l e (headSpec w_R_mergeQueues ({ frames := 3, cells := 0, slots := 0, locals := 75 } : Room)).room s m ([.ref (q 0), .int a0, .int a1, .int a2].toArray) below meth c H locs 0 0 (MQ below (qd_R_mergeQueues D tys q cR ρ a0 a1 a2 v A) ([.ref (q 0), .int a0, .int a1, .int a2].toArray) s 0 0 A) (F0 m 243 ls []) := by
        intro u89 hu89 H locs hP hD hS ls hl
        subst hu89
        have hres := zs_r hres
        refine lv_iconst (v := 1) hx hb d_R_mergeQueues_243 (by decide) ?_
        obtain rfl := Option.some.inj hres
        exact W.zret (v := 1) (ty := .boolean) hx hb hr rfl (fun t ht hW => ⟨⟨_, (), rfl, rfl, by rw [ht]; exact hP, va_K.moved hW.alike hK, hD⟩, hS.F ht⟩) hS.2.2 d_R_mergeQueues_244
      have hloop89 : ∀ (n : Nat) (x89_6 : Int32) (x89_5 : Int32) (g89 : RSt) (H : Heap) (locs : List Loc), va_P D vwCl (zR q cR g89) H → va_D A (zR q cR g89) → va_S A s.heap H locs → ∀ (ls : Array Slot), lv_has ls 11 [(6, .int x89_6), (5, .int x89_5), (4, .int w9.2.2), (0, .ref (q 0)), (1, .int a0), (2, .int a1), (3, .int a2)] → L_R_mergeQueues_89 a0 a1 a2 w9 n x89_6 x89_5 g89 = some w89 → W p l e (headSpec w_R_mergeQueues ({ frames := 3, cells := 0, slots := 0, locals := 75 } : Room)).room s m ([.ref (q 0), .int a0, .int a1, .int a2].toArray) below meth c H locs 0 0 (MQ below (qd_R_mergeQueues D tys q cR ρ a0 a1 a2 v A) ([.ref (q 0), .int a0, .int a1, .int a2].toArray) s 0 0 A) (F0 m 89 ls []) := by
        intro n
        induction n with
        | zero => intro x89_6 x89_5 g89 H locs hP hD hS ls hl hL89; cases hL89
        | succ n ih =>
          intro x89_6 x89_5 g89 H locs hP hD hS ls hl hL89
          rw [L_R_mergeQueues_89] at hL89
          refine lv_iload hx hb d_R_mergeQueues_89 (lv_at hl 0 rfl) ?_
          refine lv_iload hx hb d_R_mergeQueues_91 (lv_at hl 2 rfl) ?_
          refine lv_icmp_ge (tgt := 243) hx hb d_R_mergeQueues_93 (by decide) (fun c_93 => ?_) (fun c_93 => ?_)
          · have hL89 := zi_p c_93 hL89
            obtain rfl := Option.some.inj hL89
            exact hk89 _ rfl _ _ hP hD hS ls (lv_sub hl [0, 1, 2, 3, 4, 5, 6] rfl)
          · have hL89 := zi_n c_93 hL89
            refine lv_iconst (v := (-1)) hx hb d_R_mergeQueues_96 (by decide) ?_
            refine lv_istore (lv' := [(7, .int (-1)), (6, .int x89_6), (5, .int x89_5), (4, .int w9.2.2), (0, .ref (q 0)), (1, .int a0), (2, .int a1), (3, .int a2)]) hx hb d_R_mergeQueues_97 hl (by decide) rfl (fun ls hl => ?_)
            refine lv_bipush (v := 15) hx hb d_R_mergeQueues_99 (by decide) ?_
            refine lv_istore (lv' := [(8, .int 15), (7, .int (-1)), (6, .int x89_6), (5, .int x89_5), (4, .int w9.2.2), (0, .ref (q 0)), (1, .int a0), (2, .int a1), (3, .int a2)]) hx hb d_R_mergeQueues_101 hl (by decide) rfl (fun ls hl => ?_)
            obtain ⟨w103, hL103, hL89⟩ := zo_b hL89
            have hk103 : ∀ (H : Heap) (locs : List Loc), va_P D vwCl (zR q cR g89) H → va_D A (zR q cR g89) → va_S A s.heap H locs → ∀ (ls : Array Slot), lv_has ls 11 [(8, .int w103.1), (7, .int w103.2), (6, .int x89_6), (5, .int x89_5), (4, .int w9.2.2), (0, .ref (q 0)), (1, .int a0), (2, .int a1), (3, .int a2)] → W p l e (headSpec w_R_mergeQueues ({ frames := 3, cells := 0, slots := 0, locals := 75 } : Room)).room s m ([.ref (q 0), .int a0, .int a1, .int a2].toArray) below meth c H locs 0 0 (MQ below (qd_R_mergeQueues D tys q cR ρ a0 a1 a2 v A) ([.ref (q 0), .int a0, .int a1, .int a2].toArray) s 0 0 A) (F0 m 206 ls []) := by
              intro H locs hP hD hS ls hl
              refine lv_iload hx hb d_R_mergeQueues_206 (lv_at hl 1 rfl) ?_
              refine lv_if_ge (tgt := 213) hx hb d_R_mergeQueues_208 (by decide) (fun c_208 => ?_) (fun c_208 => ?_)
              · have hL89 := zi_p c_208 hL89
                refine lv_aload_n hx hb d_R_mergeQueues_213 rfl (lv_at hl 5 rfl) ?_
                refine va_get (D := D) (ci := 4) (v := .ref (q 7)) (C := R_R) (T := T_R) (N := 23) hx hb hts in_R hown hK hP (0) rfl rfl 6 (by decide) (hts _ k_434) (fun _ h9 => h9) rfl d_R_mergeQueues_214 ?_
                refine lv_sipush (v := 520) hx hb d_R_mergeQueues_217 (by decide) ?_
                refine lv_iload hx hb d_R_mergeQueues_220 (lv_at hl 2 rfl) ?_
                refine lv_iadd hx hb d_R_mergeQueues_222 ?_
                refine lv_iload hx hb d_R_mergeQueues_223 (lv_at hl 1 rfl) ?_
                by_cases ck_225 : zin (520 + x89_6) 536
                · have hL89 := zi_p ck_225 hL89
                  refine va_iast hx hb hK hP hD hS 7 6 rfl rfl ck_225 d_R_mergeQueues_225 (fun H locs hP hD hS => ?_)
                  have hP : va_P D vwCl ([(q 0, .inr (4, [.ref (q 1), .ref (q 2), .ref (q 3), .ref (q 4), .ref (q 5), .ref (q 6), .ref (q 7), .ref (q 8), .ref (q 9), .ref (q 10), .ref (q 11), .int g89.1.2.2.2, .ref (q 12), .ref (q 13), .ref (q 14), .ref (q 15), .ref (q 16), .ref (q 17), .int g89.2.2.1.1.1, .ref (q 18), .ref (q 19), .ref (q 20), .ref (q 21)])), (q 1, .inl (cR 1, 67, .inr (.inl g89.1.1.1.1.1))), (q 2, .inl (cR 2, 67, .inl g89.1.1.1.1.2)), (q 3, .inl (cR 3, 67, .inl g89.1.1.1.2)), (q 4, .inl (cR 4, 67, .inl g89.1.1.2.1.1)), (q 5, .inl (cR 5, 67, .inr (.inl g89.1.1.2.1.2))), (q 6, .inl (cR 6, 67, .inl g89.1.1.2.2)), (q 7, .inl (cR 7, 536, .inl (upd g89.1.2.1.1.1 (520 + x89_6).toNatClampNeg w103.2))), (q 8, .inl (cR 8, 67, .inl g89.1.2.1.1.2)), (q 9, .inl (cR 9, 67, .inr (.inl g89.1.2.1.2))), (q 10, .inl (cR 10, 67, .inr (.inl g89.1.2.2.1.1))), (q 11, .inl (cR 11, 67, .inl g89.1.2.2.1.2)), (q 12, .inl (cR 12, 60, .inl g89.2.1.1.1.1)), (q 13, .inl (cR 13, 60, .inl g89.2.1.1.1.2)), (q 14, .inl (cR 14, 60, .inr (.inl g89.2.1.1.2))), (q 15, .inl (cR 15, 60, .inr (.inl g89.2.1.2.1.1))), (q 16, .inl (cR 16, 4, .inl g89.2.1.2.1.2)), (q 17, .inl (cR 17, 4, .inl g89.2.1.2.2)), (q 18, .inl (cR 18, 100, .inl g89.2.2.1.1.2)), (q 19, .inl (cR 19, 5, .inl g89.2.2.1.2)), (q 20, .inl (cR 20, 5, .inl g89.2.2.2.1)), (q 21, .inl (cR 21, 5, .inl g89.2.2.2.2))]) H := hP
                  have hD : va_D A ([(q 0, .inr (4, [.ref (q 1), .ref (q 2), .ref (q 3), .ref (q 4), .ref (q 5), .ref (q 6), .ref (q 7), .ref (q 8), .ref (q 9), .ref (q 10), .ref (q 11), .int g89.1.2.2.2, .ref (q 12), .ref (q 13), .ref (q 14), .ref (q 15), .ref (q 16), .ref (q 17), .int g89.2.2.1.1.1, .ref (q 18), .ref (q 19), .ref (q 20), .ref (q 21)])), (q 1, .inl (cR 1, 67, .inr (.inl g89.1.1.1.1.1))), (q 2, .inl (cR 2, 67, .inl g89.1.1.1.1.2)), (q 3, .inl (cR 3, 67, .inl g89.1.1.1.2)), (q 4, .inl (cR 4, 67, .inl g89.1.1.2.1.1)), (q 5, .inl (cR 5, 67, .inr (.inl g89.1.1.2.1.2))), (q 6, .inl (cR 6, 67, .inl g89.1.1.2.2)), (q 7, .inl (cR 7, 536, .inl (upd g89.1.2.1.1.1 (520 + x89_6).toNatClampNeg w103.2))), (q 8, .inl (cR 8, 67, .inl g89.1.2.1.1.2)), (q 9, .inl (cR 9, 67, .inr (.inl g89.1.2.1.2))), (q 10, .inl (cR 10, 67, .inr (.inl g89.1.2.2.1.1))), (q 11, .inl (cR 11, 67, .inl g89.1.2.2.1.2)), (q 12, .inl (cR 12, 60, .inl g89.2.1.1.1.1)), (q 13, .inl (cR 13, 60, .inl g89.2.1.1.1.2)), (q 14, .inl (cR 14, 60, .inr (.inl g89.2.1.1.2))), (q 15, .inl (cR 15, 60, .inr (.inl g89.2.1.2.1.1))), (q 16, .inl (cR 16, 4, .inl g89.2.1.2.1.2)), (q 17, .inl (cR 17, 4, .inl g89.2.1.2.2)), (q 18, .inl (cR 18, 100, .inl g89.2.2.1.1.2)), (q 19, .inl (cR 19, 5, .inl g89.2.2.1.2)), (q 20, .inl (cR 20, 5, .inl g89.2.2.2.1)), (q 21, .inl (cR 21, 5, .inl g89.2.2.2.2))]) := hD
                  refine lv_iload hx hb d_R_mergeQueues_226 (lv_at hl 3 rfl) ?_
                  refine lv_iconst (v := 1) hx hb d_R_mergeQueues_228 (by decide) ?_
                  refine lv_iload hx hb d_R_mergeQueues_229 (lv_at hl 1 rfl) ?_
                  refine lv_ishl hx hb d_R_mergeQueues_231 ?_
                  refine lv_iconst (v := (-1)) hx hb d_R_mergeQueues_232 (by decide) ?_
                  refine lv_ixor hx hb d_R_mergeQueues_233 ?_
                  refine lv_iand hx hb d_R_mergeQueues_234 ?_
                  refine lv_istore (lv' := [(5, .int (x89_5 &&& ((1 <<< (w103.2 &&& 31)) ^^^ (-1)))), (8, .int w103.1), (7, .int w103.2), (6, .int x89_6), (4, .int w9.2.2), (0, .ref (q 0)), (1, .int a0), (2, .int a1), (3, .int a2)]) hx hb d_R_mergeQueues_235 hl (by decide) rfl (fun ls hl => ?_)
                  refine lv_iinc (v := (x89_6 + 1)) (lv' := [(6, .int (x89_6 + 1)), (5, .int (x89_5 &&& ((1 <<< (w103.2 &&& 31)) ^^^ (-1)))), (8, .int w103.1), (7, .int w103.2), (4, .int w9.2.2), (0, .ref (q 0)), (1, .int a0), (2, .int a1), (3, .int a2)]) hx hb d_R_mergeQueues_237 hl (k := 3) rfl rfl (by decide) rfl (fun ls hl => ?_)
                  refine lv_goto (tgt := 89) hx hb d_R_mergeQueues_240 (by decide) ?_
                  exact ih (x89_6 + 1) (x89_5 &&& ((1 <<< (w103.2 &&& 31)) ^^^ (-1))) (((((g89.1.1.1.1.1, g89.1.1.1.1.2), g89.1.1.1.2), ((g89.1.1.2.1.1, g89.1.1.2.1.2), g89.1.1.2.2)), ((((upd g89.1.2.1.1.1 (520 + x89_6).toNatClampNeg w103.2), g89.1.2.1.1.2), g89.1.2.1.2), ((g89.1.2.2.1.1, g89.1.2.2.1.2), g89.1.2.2.2))), ((((g89.2.1.1.1.1, g89.2.1.1.1.2), g89.2.1.1.2), ((g89.2.1.2.1.1, g89.2.1.2.1.2), g89.2.1.2.2)), (((g89.2.2.1.1.1, g89.2.2.1.1.2), g89.2.2.1.2), (g89.2.2.2.1, g89.2.2.2.2)))) _ _ hP hD hS ls (lv_sub hl [0, 1, 4, 5, 6, 7, 8] rfl) hL89
                · exact absurd (zi_n ck_225 hL89) (by simp)
              · have hL89 := zi_n c_208 hL89
                refine lv_iconst (v := 0) hx hb d_R_mergeQueues_211 (by decide) ?_
                obtain rfl := Option.some.inj hL89
                obtain rfl := Option.some.inj hres
                exact W.zret (v := 0) (ty := .boolean) hx hb hr rfl (fun t ht hW => ⟨⟨_, (), rfl, rfl, by rw [ht]; exact hP, va_K.moved hW.alike hK, hD⟩, hS.F ht⟩) hS.2.2 d_R_mergeQueues_212
            have hloop103 : ∀ (n : Nat) (x103_8 : Int32) (x103_7 : Int32) (H : Heap) (locs : List Loc), va_P D vwCl (zR q cR g89) H → va_D A (zR q cR g89) → va_S A s.heap H locs → ∀ (ls : Array Slot), lv_has ls 11 [(8, .int x103_8), (7, .int x103_7), (6, .int x89_6), (5, .int x89_5), (4, .int w9.2.2), (0, .ref (q 0)), (1, .int a0), (2, .int a1), (3, .int a2)] → L_R_mergeQueues_103 a0 a1 a2 x89_5 g89 n x103_8 x103_7 = some w103 → W p l e (headSpec w_R_mergeQueues ({ frames := 3, cells := 0, slots := 0, locals := 75 } : Room)).room s m ([.ref (q 0), .int a0, .int a1, .int a2].toArray) below meth c H locs 0 0 (MQ below (qd_R_mergeQueues D tys q cR ρ a0 a1 a2 v A) ([.ref (q 0), .int a0, .int a1, .int a2].toArray) s 0 0 A) (F0 m 103 ls []) := by
              intro n
              induction n with
              | zero => intro x103_8 x103_7 H locs hP hD hS ls hl hL103; cases hL103
              | succ n ih =>
                intro x103_8 x103_7 H locs hP hD hS ls hl hL103
                rw [L_R_mergeQueues_103] at hL103
                refine lv_iload hx hb d_R_mergeQueues_103 (lv_at hl 0 rfl) ?_
                refine lv_if_lt (tgt := 206) hx hb d_R_mergeQueues_105 (by decide) (fun c_105 => ?_) (fun c_105 => ?_)
                · have hL103 := zi_p c_105 hL103
                  obtain rfl := Option.some.inj hL103
                  exact hk103 _ _ hP hD hS ls (lv_sub hl [0, 1, 2, 3, 4, 5, 6, 7, 8] rfl)
                · have hL103 := zi_n c_105 hL103
                  refine lv_iload hx hb d_R_mergeQueues_108 (lv_at hl 3 rfl) ?_
                  refine lv_iload hx hb d_R_mergeQueues_110 (lv_at hl 0 rfl) ?_
                  refine lv_ishr hx hb d_R_mergeQueues_112 ?_
                  refine lv_iconst (v := 1) hx hb d_R_mergeQueues_113 (by decide) ?_
                  refine lv_iand hx hb d_R_mergeQueues_114 ?_
                  refine lv_iconst (v := 1) hx hb d_R_mergeQueues_115 (by decide) ?_
                  have hj124 : ∀ (j124_s0 : Int32) (H : Heap) (locs : List Loc), va_P D vwCl (zR q cR g89) H → va_D A (zR q cR g89) → va_S A s.heap H locs → ∀ (ls : Array Slot), lv_has ls 11 [(8, .int x103_8), (7, .int x103_7), (6, .int x89_6), (5, .int x89_5), (4, .int w9.2.2), (0, .ref (q 0)), (1, .int a0), (2, .int a1), (3, .int a2)] → J_R_mergeQueues_124 a0 a1 a2 x89_5 g89 x103_8 x103_7 (L_R_mergeQueues_103 a0 a1 a2 x89_5 g89 n) j124_s0 = some w103 → W p l e (headSpec w_R_mergeQueues ({ frames := 3, cells := 0, slots := 0, locals := 75 } : Room)).room s m ([.ref (q 0), .int a0, .int a1, .int a2].toArray) below meth c H locs 0 0 (MQ below (qd_R_mergeQueues D tys q cR ρ a0 a1 a2 v A) ([.ref (q 0), .int a0, .int a1, .int a2].toArray) s 0 0 A) (F0 m 124 ls [.int j124_s0]) := by
                    intro j124_s0 H locs hP hD hS ls hl hL103
                    unfold J_R_mergeQueues_124 at hL103
                    refine lv_istore (lv' := [(9, .int j124_s0), (8, .int x103_8), (7, .int x103_7), (6, .int x89_6), (5, .int x89_5), (4, .int w9.2.2), (0, .ref (q 0)), (1, .int a0), (2, .int a1), (3, .int a2)]) hx hb d_R_mergeQueues_124 hl (by decide) rfl (fun ls hl => ?_)
                    refine lv_iconst (v := 0) hx hb d_R_mergeQueues_126 (by decide) ?_
                    refine lv_istore (lv' := [(10, .int 0), (9, .int j124_s0), (8, .int x103_8), (7, .int x103_7), (6, .int x89_6), (5, .int x89_5), (4, .int w9.2.2), (0, .ref (q 0)), (1, .int a0), (2, .int a1), (3, .int a2)]) hx hb d_R_mergeQueues_127 hl (by decide) rfl (fun ls hl => ?_)
                    obtain ⟨w129, hL129, hL103⟩ := zo_b hL103
                    have hk129 : ∀ (H : Heap) (locs : List Loc), va_P D vwCl (zR q cR g89) H → va_D A (zR q cR g89) → va_S A s.heap H locs → ∀ (ls : Array Slot), lv_has ls 11 [(10, .int w129.1), (9, .int w129.2), (8, .int x103_8), (7, .int x103_7), (6, .int x89_6), (5, .int x89_5), (4, .int w9.2.2), (0, .ref (q 0)), (1, .int a0), (2, .int a1), (3, .int a2)] → W p l e (headSpec w_R_mergeQueues ({ frames := 3, cells := 0, slots := 0, locals := 75 } : Room)).room s m ([.ref (q 0), .int a0, .int a1, .int a2].toArray) below meth c H locs 0 0 (MQ below (qd_R_mergeQueues D tys q cR ρ a0 a1 a2 v A) ([.ref (q 0), .int a0, .int a1, .int a2].toArray) s 0 0 A) (F0 m 186 ls []) := by
                      intro H locs hP hD hS ls hl
                      refine lv_iload hx hb d_R_mergeQueues_186 (lv_at hl 1 rfl) ?_
                      refine lv_if_eq (tgt := 196) hx hb d_R_mergeQueues_188 (by decide) (fun c_188 => ?_) (fun c_188 => ?_)
                      · have hL103 := zi_p c_188 hL103
                        refine lv_iload hx hb d_R_mergeQueues_196 (lv_at hl 3 rfl) ?_
                        refine lv_istore (lv' := [(7, .int x103_7), (10, .int w129.1), (9, .int w129.2), (8, .int x103_8), (6, .int x89_6), (5, .int x89_5), (4, .int w9.2.2), (0, .ref (q 0)), (1, .int a0), (2, .int a1), (3, .int a2)]) hx hb d_R_mergeQueues_198 hl (by decide) rfl (fun ls hl => ?_)
                        refine lv_iinc (v := (x103_8 + (-1))) (lv' := [(8, .int (x103_8 + (-1))), (7, .int x103_7), (10, .int w129.1), (9, .int w129.2), (6, .int x89_6), (5, .int x89_5), (4, .int w9.2.2), (0, .ref (q 0)), (1, .int a0), (2, .int a1), (3, .int a2)]) hx hb d_R_mergeQueues_200 hl (k := 3) rfl rfl (by decide) rfl (fun ls hl => ?_)
                        refine lv_goto (tgt := 103) hx hb d_R_mergeQueues_203 (by decide) ?_
                        exact ih (x103_8 + (-1)) x103_7 _ _ hP hD hS ls (lv_sub hl [0, 1, 4, 5, 6, 7, 8, 9, 10] rfl) hL103
                      · have hL103 := zi_n c_188 hL103
                        refine lv_iload hx hb d_R_mergeQueues_191 (lv_at hl 2 rfl) ?_
                        refine lv_goto (tgt := 198) hx hb d_R_mergeQueues_193 (by decide) ?_
                        refine lv_istore (lv' := [(7, .int x103_8), (10, .int w129.1), (9, .int w129.2), (8, .int x103_8), (6, .int x89_6), (5, .int x89_5), (4, .int w9.2.2), (0, .ref (q 0)), (1, .int a0), (2, .int a1), (3, .int a2)]) hx hb d_R_mergeQueues_198 hl (by decide) rfl (fun ls hl => ?_)
                        refine lv_iinc (v := (x103_8 + (-1))) (lv' := [(8, .int (x103_8 + (-1))), (7, .int x103_8), (10, .int w129.1), (9, .int w129.2), (6, .int x89_6), (5, .int x89_5), (4, .int w9.2.2), (0, .ref (q 0)), (1, .int a0), (2, .int a1), (3, .int a2)]) hx hb d_R_mergeQueues_200 hl (k := 3) rfl rfl (by decide) rfl (fun ls hl => ?_)
                        refine lv_goto (tgt := 103) hx hb d_R_mergeQueues_203 (by decide) ?_
                        exact ih (x103_8 + (-1)) x103_8 _ _ hP hD hS ls (lv_sub hl [0, 1, 4, 5, 6, 7, 8, 9, 10] rfl) hL103
                    have hloop129 : ∀ (n : Nat) (x129_10 : Int32) (x129_9 : Int32) (H : Heap) (locs : List Loc), va_P D vwCl (zR q cR g89) H → va_D A (zR q cR g89) → va_S A s.heap H locs → ∀ (ls : Array Slot), lv_has ls 11 [(10, .int x129_10), (9, .int x129_9), (8, .int x103_8), (7, .int x103_7), (6, .int x89_6), (5, .int x89_5), (4, .int w9.2.2), (0, .ref (q 0)), (1, .int a0), (2, .int a1), (3, .int a2)] → L_R_mergeQueues_129 a0 a1 a2 x89_5 g89 x103_8 n x129_10 x129_9 = some w129 → W p l e (headSpec w_R_mergeQueues ({ frames := 3, cells := 0, slots := 0, locals := 75 } : Room)).room s m ([.ref (q 0), .int a0, .int a1, .int a2].toArray) below meth c H locs 0 0 (MQ below (qd_R_mergeQueues D tys q cR ρ a0 a1 a2 v A) ([.ref (q 0), .int a0, .int a1, .int a2].toArray) s 0 0 A) (F0 m 129 ls []) := by
                      intro n
                      induction n with
                      | zero => intro x129_10 x129_9 H locs hP hD hS ls hl hL129; cases hL129
                      | succ n ih =>
                        intro x129_10 x129_9 H locs hP hD hS ls hl hL129
                        rw [L_R_mergeQueues_129] at hL129
                        refine lv_iload hx hb d_R_mergeQueues_129 (lv_at hl 0 rfl) ?_
                        refine lv_bipush (v := 16) hx hb d_R_mergeQueues_131 (by decide) ?_
                        refine lv_icmp_ge (tgt := 186) hx hb d_R_mergeQueues_133 (by decide) (fun c_133 => ?_) (fun c_133 => ?_)
                        · have hL129 := zi_p c_133 hL129
                          obtain rfl := Option.some.inj hL129
                          exact hk129 _ _ hP hD hS ls (lv_sub hl [0, 1, 2, 3, 4, 5, 6, 7, 8, 9, 10] rfl)
                        · have hL129 := zi_n c_133 hL129
                          refine lv_iload hx hb d_R_mergeQueues_136 (lv_at hl 1 rfl) ?_
                          refine lv_if_eq (tgt := 177) hx hb d_R_mergeQueues_138 (by decide) (fun c_138 => ?_) (fun c_138 => ?_)
                          · have hL129 := zi_p c_138 hL129
                            refine lv_iconst (v := 0) hx hb d_R_mergeQueues_177 (by decide) ?_
                            refine lv_istore (lv' := [(9, .int 0), (10, .int x129_10), (8, .int x103_8), (7, .int x103_7), (6, .int x89_6), (5, .int x89_5), (4, .int w9.2.2), (0, .ref (q 0)), (1, .int a0), (2, .int a1), (3, .int a2)]) hx hb d_R_mergeQueues_178 hl (by decide) rfl (fun ls hl => ?_)
                            refine lv_iinc (v := (x129_10 + 1)) (lv' := [(10, .int (x129_10 + 1)), (9, .int 0), (8, .int x103_8), (7, .int x103_7), (6, .int x89_6), (5, .int x89_5), (4, .int w9.2.2), (0, .ref (q 0)), (1, .int a0), (2, .int a1), (3, .int a2)]) hx hb d_R_mergeQueues_180 hl (k := 1) rfl rfl (by decide) rfl (fun ls hl => ?_)
                            refine lv_goto (tgt := 129) hx hb d_R_mergeQueues_183 (by decide) ?_
                            exact ih (x129_10 + 1) 0 _ _ hP hD hS ls (lv_sub hl [0, 1, 2, 3, 4, 5, 6, 7, 8, 9, 10] rfl) hL129
                          · have hL129 := zi_n c_138 hL129
                            refine lv_iload hx hb d_R_mergeQueues_141 (lv_at hl 5 rfl) ?_
                            refine lv_iload hx hb d_R_mergeQueues_143 (lv_at hl 0 rfl) ?_
                            refine lv_ishr hx hb d_R_mergeQueues_145 ?_
                            refine lv_iconst (v := 1) hx hb d_R_mergeQueues_146 (by decide) ?_
                            refine lv_iand hx hb d_R_mergeQueues_147 ?_
                            refine lv_iconst (v := 1) hx hb d_R_mergeQueues_148 (by decide) ?_
                            refine lv_icmp_ne (tgt := 173) hx hb d_R_mergeQueues_149 (by decide) (fun c_149 => ?_) (fun c_149 => ?_)
                            · have hL129 := zi_n c_149 hL129
                              refine lv_iconst (v := 1) hx hb d_R_mergeQueues_173 (by decide) ?_
                              refine lv_goto (tgt := 178) hx hb d_R_mergeQueues_174 (by decide) ?_
                              refine lv_istore (lv' := [(9, .int 1), (10, .int x129_10), (8, .int x103_8), (7, .int x103_7), (6, .int x89_6), (5, .int x89_5), (4, .int w9.2.2), (0, .ref (q 0)), (1, .int a0), (2, .int a1), (3, .int a2)]) hx hb d_R_mergeQueues_178 hl (by decide) rfl (fun ls hl => ?_)
                              refine lv_iinc (v := (x129_10 + 1)) (lv' := [(10, .int (x129_10 + 1)), (9, .int 1), (8, .int x103_8), (7, .int x103_7), (6, .int x89_6), (5, .int x89_5), (4, .int w9.2.2), (0, .ref (q 0)), (1, .int a0), (2, .int a1), (3, .int a2)]) hx hb d_R_mergeQueues_180 hl (k := 1) rfl rfl (by decide) rfl (fun ls hl => ?_)
                              refine lv_goto (tgt := 129) hx hb d_R_mergeQueues_183 (by decide) ?_
                              exact ih (x129_10 + 1) 1 _ _ hP hD hS ls (lv_sub hl [0, 1, 2, 3, 4, 5, 6, 7, 8, 9, 10] rfl) hL129
                            · have hL129 := zi_p c_149 hL129
                              refine lv_iload hx hb d_R_mergeQueues_152 (lv_at hl 0 rfl) ?_
                              refine lv_iload hx hb d_R_mergeQueues_154 (lv_at hl 2 rfl) ?_
                              refine lv_icmp_eq (tgt := 173) hx hb d_R_mergeQueues_156 (by decide) (fun c_156 => ?_) (fun c_156 => ?_)
                              · have hL129 := zi_p c_156 hL129
                                refine lv_iconst (v := 1) hx hb d_R_mergeQueues_173 (by decide) ?_
                                refine lv_goto (tgt := 178) hx hb d_R_mergeQueues_174 (by decide) ?_
                                refine lv_istore (lv' := [(9, .int 1), (10, .int x129_10), (8, .int x103_8), (7, .int x103_7), (6, .int x89_6), (5, .int x89_5), (4, .int w9.2.2), (0, .ref (q 0)), (1, .int a0), (2, .int a1), (3, .int a2)]) hx hb d_R_mergeQueues_178 hl (by decide) rfl (fun ls hl => ?_)
                                refine lv_iinc (v := (x129_10 + 1)) (lv' := [(10, .int (x129_10 + 1)), (9, .int 1), (8, .int x103_8), (7, .int x103_7), (6, .int x89_6), (5, .int x89_5), (4, .int w9.2.2), (0, .ref (q 0)), (1, .int a0), (2, .int a1), (3, .int a2)]) hx hb d_R_mergeQueues_180 hl (k := 1) rfl rfl (by decide) rfl (fun ls hl => ?_)
                                refine lv_goto (tgt := 129) hx hb d_R_mergeQueues_183 (by decide) ?_
                                exact ih (x129_10 + 1) 1 _ _ hP hD hS ls (lv_sub hl [0, 1, 2, 3, 4, 5, 6, 7, 8, 9, 10] rfl) hL129
                              · have hL129 := zi_n c_156 hL129
                                refine lv_aload_n hx hb d_R_mergeQueues_159 rfl (lv_at hl 7 rfl) ?_
                                refine lv_iload_n hx hb d_R_mergeQueues_160 rfl (lv_at hl 8 rfl) ?_
                                refine lv_iload_n hx hb d_R_mergeQueues_161 rfl (lv_at hl 9 rfl) ?_
                                refine lv_iload_n hx hb d_R_mergeQueues_162 rfl (lv_at hl 10 rfl) ?_
                                refine lv_iload hx hb d_R_mergeQueues_163 (lv_at hl 0 rfl) ?_
                                refine lv_iload hx hb d_R_mergeQueues_165 (lv_at hl 2 rfl) ?_
                                obtain ⟨v167, hc167, hL129⟩ := zo_b hL129
                                refine vp_callSi (va_Run.run (va_runV (As := [.int a0, .int a1, .int a2, .int x129_10, .int x103_8]) (rest := []) ⟨hx, hb, hml, hown, hts⟩ (c_R_goesBefore l D (zRt cR) q cR g89 a0 a1 a2 x129_10 x103_8 v167 hc167) (cwV 5 hts (zg_V k_594 k_596 k_24 k_32 g_R_goesBefore) rfl rfl rfl ⟨rfl, hd_R_goesBefore⟩ ⟨Nat.le_of_ble_eq_true rfl, Nat.le_of_ble_eq_true rfl⟩) ⟨zro_b _, va_recv hK hP (q0 := 0) rfl rfl, zro_p hP hK hN _⟩ rfl rfl hl.1 rfl (lv_room (Nat.le_of_ble_eq_true rfl)) d_R_mergeQueues_167 ⟨Nat.zero_le _, Nat.zero_le _⟩)) (fun r_167 er_167 => ?_)
                                have er_167 := er_167.symm
                                subst er_167
                                refine lv_if_ne (tgt := 177) hx hb d_R_mergeQueues_170 (by decide) (fun c_170 => ?_) (fun c_170 => ?_)
                                · have hL129 := zi_n c_170 hL129
                                  refine lv_iconst (v := 0) hx hb d_R_mergeQueues_177 (by decide) ?_
                                  refine lv_istore (lv' := [(9, .int 0), (10, .int x129_10), (8, .int x103_8), (7, .int x103_7), (6, .int x89_6), (5, .int x89_5), (4, .int w9.2.2), (0, .ref (q 0)), (1, .int a0), (2, .int a1), (3, .int a2)]) hx hb d_R_mergeQueues_178 hl (by decide) rfl (fun ls hl => ?_)
                                  refine lv_iinc (v := (x129_10 + 1)) (lv' := [(10, .int (x129_10 + 1)), (9, .int 0), (8, .int x103_8), (7, .int x103_7), (6, .int x89_6), (5, .int x89_5), (4, .int w9.2.2), (0, .ref (q 0)), (1, .int a0), (2, .int a1), (3, .int a2)]) hx hb d_R_mergeQueues_180 hl (k := 1) rfl rfl (by decide) rfl (fun ls hl => ?_)
                                  refine lv_goto (tgt := 129) hx hb d_R_mergeQueues_183 (by decide) ?_
                                  exact ih (x129_10 + 1) 0 _ _ hP hD hS ls (lv_sub hl [0, 1, 2, 3, 4, 5, 6, 7, 8, 9, 10] rfl) hL129
                                · have hL129 := zi_p c_170 hL129
                                  refine lv_iconst (v := 1) hx hb d_R_mergeQueues_173 (by decide) ?_
                                  refine lv_goto (tgt := 178) hx hb d_R_mergeQueues_174 (by decide) ?_
                                  refine lv_istore (lv' := [(9, .int 1), (10, .int x129_10), (8, .int x103_8), (7, .int x103_7), (6, .int x89_6), (5, .int x89_5), (4, .int w9.2.2), (0, .ref (q 0)), (1, .int a0), (2, .int a1), (3, .int a2)]) hx hb d_R_mergeQueues_178 hl (by decide) rfl (fun ls hl => ?_)
                                  refine lv_iinc (v := (x129_10 + 1)) (lv' := [(10, .int (x129_10 + 1)), (9, .int 1), (8, .int x103_8), (7, .int x103_7), (6, .int x89_6), (5, .int x89_5), (4, .int w9.2.2), (0, .ref (q 0)), (1, .int a0), (2, .int a1), (3, .int a2)]) hx hb d_R_mergeQueues_180 hl (k := 1) rfl rfl (by decide) rfl (fun ls hl => ?_)
                                  refine lv_goto (tgt := 129) hx hb d_R_mergeQueues_183 (by decide) ?_
                                  exact ih (x129_10 + 1) 1 _ _ hP hD hS ls (lv_sub hl [0, 1, 2, 3, 4, 5, 6, 7, 8, 9, 10] rfl) hL129
                    exact hloop129 zfuel 0 j124_s0 _ _ hP hD hS ls (lv_sub hl [0, 1, 2, 3, 4, 5, 6, 7, 8, 9, 10] rfl) hL129
                  refine lv_icmp_ne (tgt := 123) hx hb d_R_mergeQueues_116 (by decide) (fun c_116 => ?_) (fun c_116 => ?_)
                  · have hL103 := zi_n c_116 hL103
                    refine lv_iconst (v := 0) hx hb d_R_mergeQueues_123 (by decide) ?_
                    exact hj124 0 _ _ hP hD hS ls (lv_sub hl [0, 1, 2, 3, 4, 5, 6, 7, 8] rfl) hL103
                  · have hL103 := zi_p c_116 hL103
                    refine lv_iconst (v := 1) hx hb d_R_mergeQueues_119 (by decide) ?_
                    refine lv_goto (tgt := 124) hx hb d_R_mergeQueues_120 (by decide) ?_
                    exact hj124 1 _ _ hP hD hS ls (lv_sub hl [0, 1, 2, 3, 4, 5, 6, 7, 8] rfl) hL103
            exact hloop103 zfuel 15 (-1) _ _ hP hD hS ls (lv_sub hl [0, 1, 2, 3, 4, 5, 6, 7, 8] rfl) hL103
      exact hloop89 zfuel 0 w9.2.1 (((((ρ.1.1.1.1.1, ρ.1.1.1.1.2), ρ.1.1.1.2), ((ρ.1.1.2.1.1, ρ.1.1.2.1.2), (upd ρ.1.1.2.2 ((65 : Int32).toNatClampNeg) w9.2.2))), (((ρ.1.2.1.1.1, ρ.1.2.1.1.2), ρ.1.2.1.2), ((ρ.1.2.2.1.1, ρ.1.2.2.1.2), ρ.1.2.2.2))), ((((ρ.2.1.1.1.1, ρ.2.1.1.1.2), ρ.2.1.1.2), ((ρ.2.1.2.1.1, ρ.2.1.2.1.2), ρ.2.1.2.2)), (((ρ.2.2.1.1.1, ρ.2.2.1.1.2), ρ.2.2.1.2), (ρ.2.2.2.1, ρ.2.2.2.2)))) _ _ hP hD hS ls (lv_sub hl [0, 1, 2, 3, 4, 5, 6] rfl) hL89
    · have hres := zi_n c_72 hres
      refine lv_iconst (v := 0) hx hb d_R_mergeQueues_75 (by decide) ?_
      obtain rfl := Option.some.inj hres
      exact W.zret (v := 0) (ty := .boolean) hx hb hr rfl (fun t ht hW => ⟨⟨_, (), rfl, rfl, by rw [ht]; exact hP, va_K.moved hW.alike hK, hD⟩, hS.F ht⟩) hS.2.2 d_R_mergeQueues_76
  have hloop9 : ∀ (n : Nat) (x9_6 : Int32) (x9_5 : Int32) (x9_4 : Int32) (H : Heap) (locs : List Loc), va_P D vwCl (zR q cR ρ) H → va_D A (zR q cR ρ) → va_S A s.heap H locs → ∀ (ls : Array Slot), lv_has ls 11 [(6, .int x9_6), (5, .int x9_5), (4, .int x9_4), (0, .ref (q 0)), (1, .int a0), (2, .int a1), (3, .int a2)] → L_R_mergeQueues_9 ρ a0 a1 a2 n x9_6 x9_5 x9_4 = some w9 → W p l e (headSpec w_R_mergeQueues ({ frames := 3, cells := 0, slots := 0, locals := 75 } : Room)).room s m ([.ref (q 0), .int a0, .int a1, .int a2].toArray) below meth c H locs 0 0 (MQ below (qd_R_mergeQueues D tys q cR ρ a0 a1 a2 v A) ([.ref (q 0), .int a0, .int a1, .int a2].toArray) s 0 0 A) (F0 m 9 ls []) := by
    intro n
    induction n with
    | zero => intro x9_6 x9_5 x9_4 H locs hP hD hS ls hl hL9; cases hL9
    | succ n ih =>
      intro x9_6 x9_5 x9_4 H locs hP hD hS ls hl hL9
      rw [L_R_mergeQueues_9] at hL9
      refine lv_iload hx hb d_R_mergeQueues_9 (lv_at hl 0 rfl) ?_
      refine lv_bipush (v := 16) hx hb d_R_mergeQueues_11 (by decide) ?_
      refine lv_icmp_ge (tgt := 68) hx hb d_R_mergeQueues_13 (by decide) (fun c_13 => ?_) (fun c_13 => ?_)
      · have hL9 := zi_p c_13 hL9
        obtain rfl := Option.some.inj hL9
        exact hk9 _ _ hP hD hS ls (lv_sub hl [0, 1, 2, 3, 4, 5, 6] rfl)
      · have hL9 := zi_n c_13 hL9
        refine lv_aload_n hx hb d_R_mergeQueues_16 rfl (lv_at hl 3 rfl) ?_
        refine lv_iload_n hx hb d_R_mergeQueues_17 rfl (lv_at hl 4 rfl) ?_
        refine lv_iload_n hx hb d_R_mergeQueues_18 rfl (lv_at hl 5 rfl) ?_
        refine lv_iload_n hx hb d_R_mergeQueues_19 rfl (lv_at hl 6 rfl) ?_
        refine lv_iload hx hb d_R_mergeQueues_20 (lv_at hl 0 rfl) ?_
        obtain ⟨v22, hc22, hL9⟩ := zo_b hL9
        refine vp_callSi (va_Run.run (va_runV (As := [.int a0, .int a1, .int a2, .int x9_6]) (rest := []) ⟨hx, hb, hml, hown, hts⟩ (c_R_member l D (zRt cR) q cR ρ a0 a1 a2 x9_6 v22 hc22) (cwV 4 hts (zg_V k_590 k_592 k_23 k_32 g_R_member) rfl rfl rfl ⟨rfl, hd_R_member⟩ ⟨Nat.le_of_ble_eq_true rfl, Nat.le_of_ble_eq_true rfl⟩) ⟨zro_b _, va_recv hK hP (q0 := 0) rfl rfl, zro_p hP hK hN _⟩ rfl rfl hl.1 rfl (lv_room (Nat.le_of_ble_eq_true rfl)) d_R_mergeQueues_22 ⟨Nat.zero_le _, Nat.zero_le _⟩)) (fun r_22 er_22 => ?_)
        have er_22 := er_22.symm
        subst er_22
        refine lv_istore (lv' := [(7, .int v22), (6, .int x9_6), (5, .int x9_5), (4, .int x9_4), (0, .ref (q 0)), (1, .int a0), (2, .int a1), (3, .int a2)]) hx hb d_R_mergeQueues_25 hl (by decide) rfl (fun ls hl => ?_)
        refine lv_iload hx hb d_R_mergeQueues_27 (lv_at hl 0 rfl) ?_
        have hj41 : ∀ (j41_s0 : Int32) (H : Heap) (locs : List Loc), va_P D vwCl (zR q cR ρ) H → va_D A (zR q cR ρ) → va_S A s.heap H locs → ∀ (ls : Array Slot), lv_has ls 11 [(7, .int v22), (6, .int x9_6), (5, .int x9_5), (4, .int x9_4), (0, .ref (q 0)), (1, .int a0), (2, .int a1), (3, .int a2)] → J_R_mergeQueues_41 x9_6 x9_5 v22 (L_R_mergeQueues_9 ρ a0 a1 a2 n) j41_s0 = some w9 → W p l e (headSpec w_R_mergeQueues ({ frames := 3, cells := 0, slots := 0, locals := 75 } : Room)).room s m ([.ref (q 0), .int a0, .int a1, .int a2].toArray) below meth c H locs 0 0 (MQ below (qd_R_mergeQueues D tys q cR ρ a0 a1 a2 v A) ([.ref (q 0), .int a0, .int a1, .int a2].toArray) s 0 0 A) (F0 m 41 ls [.int j41_s0]) := by
          intro j41_s0 H locs hP hD hS ls hl hL9
          unfold J_R_mergeQueues_41 at hL9
          refine lv_istore (lv' := [(4, .int j41_s0), (7, .int v22), (6, .int x9_6), (5, .int x9_5), (0, .ref (q 0)), (1, .int a0), (2, .int a1), (3, .int a2)]) hx hb d_R_mergeQueues_41 hl (by decide) rfl (fun ls hl => ?_)
          refine lv_iload hx hb d_R_mergeQueues_43 (lv_at hl 1 rfl) ?_
          refine lv_if_eq (tgt := 58) hx hb d_R_mergeQueues_45 (by decide) (fun c_45 => ?_) (fun c_45 => ?_)
          · have hL9 := zi_p c_45 hL9
            refine lv_iload hx hb d_R_mergeQueues_58 (lv_at hl 3 rfl) ?_
            refine lv_istore (lv' := [(5, .int x9_5), (4, .int j41_s0), (7, .int v22), (6, .int x9_6), (0, .ref (q 0)), (1, .int a0), (2, .int a1), (3, .int a2)]) hx hb d_R_mergeQueues_60 hl (by decide) rfl (fun ls hl => ?_)
            refine lv_iinc (v := (x9_6 + 1)) (lv' := [(6, .int (x9_6 + 1)), (5, .int x9_5), (4, .int j41_s0), (7, .int v22), (0, .ref (q 0)), (1, .int a0), (2, .int a1), (3, .int a2)]) hx hb d_R_mergeQueues_62 hl (k := 3) rfl rfl (by decide) rfl (fun ls hl => ?_)
            refine lv_goto (tgt := 9) hx hb d_R_mergeQueues_65 (by decide) ?_
            exact ih (x9_6 + 1) x9_5 j41_s0 _ _ hP hD hS ls (lv_sub hl [0, 1, 2, 4, 5, 6, 7] rfl) hL9
          · have hL9 := zi_n c_45 hL9
            refine lv_iload hx hb d_R_mergeQueues_48 (lv_at hl 3 rfl) ?_
            refine lv_iconst (v := 1) hx hb d_R_mergeQueues_50 (by decide) ?_
            refine lv_iload hx hb d_R_mergeQueues_51 (lv_at hl 2 rfl) ?_
            refine lv_ishl hx hb d_R_mergeQueues_53 ?_
            refine lv_ior hx hb d_R_mergeQueues_54 ?_
            refine lv_goto (tgt := 60) hx hb d_R_mergeQueues_55 (by decide) ?_
            refine lv_istore (lv' := [(5, .int (x9_5 ||| (1 <<< (x9_6 &&& 31)))), (4, .int j41_s0), (7, .int v22), (6, .int x9_6), (0, .ref (q 0)), (1, .int a0), (2, .int a1), (3, .int a2)]) hx hb d_R_mergeQueues_60 hl (by decide) rfl (fun ls hl => ?_)
            refine lv_iinc (v := (x9_6 + 1)) (lv' := [(6, .int (x9_6 + 1)), (5, .int (x9_5 ||| (1 <<< (x9_6 &&& 31)))), (4, .int j41_s0), (7, .int v22), (0, .ref (q 0)), (1, .int a0), (2, .int a1), (3, .int a2)]) hx hb d_R_mergeQueues_62 hl (k := 3) rfl rfl (by decide) rfl (fun ls hl => ?_)
            refine lv_goto (tgt := 9) hx hb d_R_mergeQueues_65 (by decide) ?_
            exact ih (x9_6 + 1) (x9_5 ||| (1 <<< (x9_6 &&& 31))) j41_s0 _ _ hP hD hS ls (lv_sub hl [0, 1, 2, 4, 5, 6, 7] rfl) hL9
        refine lv_if_eq (tgt := 39) hx hb d_R_mergeQueues_29 (by decide) (fun c_29 => ?_) (fun c_29 => ?_)
        · have hL9 := zi_p c_29 hL9
          refine lv_iload hx hb d_R_mergeQueues_39 (lv_at hl 3 rfl) ?_
          exact hj41 x9_4 _ _ hP hD hS ls (lv_sub hl [0, 1, 2, 3, 4, 5, 6, 7] rfl) hL9
        · have hL9 := zi_n c_29 hL9
          refine lv_iload hx hb d_R_mergeQueues_32 (lv_at hl 3 rfl) ?_
          refine lv_iconst (v := 1) hx hb d_R_mergeQueues_34 (by decide) ?_
          refine lv_iadd hx hb d_R_mergeQueues_35 ?_
          refine lv_goto (tgt := 41) hx hb d_R_mergeQueues_36 (by decide) ?_
          exact hj41 (x9_4 + 1) _ _ hP hD hS ls (lv_sub hl [0, 1, 2, 3, 4, 5, 6, 7] rfl) hL9
  exact hloop9 zfuel 0 0 0 _ _ hP hD hS ls (lv_sub hl [0, 1, 2, 3, 4, 5, 6] rfl) hL9
abbrev qd_R_mergeTrees (D : va_G) (tys : List (ClassId × FieldType)) (q : Nat → Nat) (cR : Nat → ClassId) (ρ : RSt) (a0 : Int32) (a1 : Int32) (a2 : Int32) (v : Int32 × RSt) (A : Nat → Prop) : Array Value → State → Outcome → State → Prop := va_Qi (fun (r : Int32) (_ : Unit) => r = v.1) (fun _ t => zwd D (zRt cR) (A) (zR q cR v.2) t) (A)

def J_R_mergeTrees_132 (ρ : RSt) (a0 : Int32) (a1 : Int32) (a2 : Int32) (j105_s0 : Int32) (j132_s0 : Int32) : Option (Int32 × RSt) :=
  if zin a0 67 then
    if zin a1 67 then
      if zin a2 67 then
        Option.bind (f_R_torn (ρ.1.1.2.1.1 a0.toNatClampNeg) (ρ.1.1.2.1.1 a1.toNatClampNeg) (ρ.1.1.2.1.1 a2.toNatClampNeg)) (fun v151 =>
          if v151 = 0 then
            if zin a0 67 then
              if zin a1 67 then
                if zin a2 67 then
                  Option.bind (f_R_chosen (ρ.1.1.2.1.1 a0.toNatClampNeg) (ρ.1.1.2.1.1 a1.toNatClampNeg) (ρ.1.1.2.1.1 a2.toNatClampNeg)) (fun v184 =>
                    if zin a0 67 then
                      if zin a1 67 then
                        if zin a2 67 then
                          if zin a1 67 then
                            if zin a2 67 then
                              if zin a0 67 then
                                Option.bind (f_R_mergeQueues ((((((vp_updL ρ.1.1.1.1.1 ((65 : Int32).toNatClampNeg) (((ρ.1.1.1.1.1 a1.toNatClampNeg) + (ρ.1.1.1.1.1 a2.toNatClampNeg)) - (ρ.1.1.1.1.1 a0.toNatClampNeg))), (upd ρ.1.1.1.1.2 ((65 : Int32).toNatClampNeg) j105_s0)), (upd ρ.1.1.1.2 ((65 : Int32).toNatClampNeg) j132_s0)), (((upd ρ.1.1.2.1.1 ((65 : Int32).toNatClampNeg) v184), (vp_updL ρ.1.1.2.1.2 ((65 : Int32).toNatClampNeg) ((((ρ.1.1.2.1.2 a0.toNatClampNeg) &&& (ρ.1.1.2.1.2 a1.toNatClampNeg)) &&& (ρ.1.1.2.1.2 a2.toNatClampNeg)) ||| (((ρ.1.1.2.1.2 a1.toNatClampNeg) ||| (ρ.1.1.2.1.2 a2.toNatClampNeg)) &&& ((ρ.1.1.2.1.2 a0.toNatClampNeg) ^^^ (-1)))))), ρ.1.1.2.2)), (((ρ.1.2.1.1.1, ρ.1.2.1.1.2), ρ.1.2.1.2), ((ρ.1.2.2.1.1, ρ.1.2.2.1.2), ρ.1.2.2.2))), ((((ρ.2.1.1.1.1, ρ.2.1.1.1.2), ρ.2.1.1.2), ((ρ.2.1.2.1.1, ρ.2.1.2.1.2), ρ.2.1.2.2)), (((ρ.2.2.1.1.1, ρ.2.2.1.1.2), ρ.2.2.1.2), (ρ.2.2.2.1, ρ.2.2.2.2)))) a0 a1 a2) (fun v244 =>
                                  if v244.1 = 0 then
                                    some ((-14), v244.2)
                                  else
                                    Option.bind (f_R_optionTorn v244.2 a0 a1 a2) (fun v257 =>
                                      if v257 = 0 then
                                        Option.bind (f_R_mergeOptions v244.2 a0 a1 a2) (fun v270 =>
                                          if zin a0 67 then
                                            if zin a1 67 then
                                              if zin a2 67 then
                                                Option.bind (f_R_torn (v270.1.2.2.1.2 a0.toNatClampNeg) (v270.1.2.2.1.2 a1.toNatClampNeg) (v270.1.2.2.1.2 a2.toNatClampNeg)) (fun v291 =>
                                                  if v291 = 0 then
                                                    if zin a1 67 then
                                                      if zin a2 67 then
                                                        if zin a0 67 then
                                                          if zin a0 67 then
                                                            if zin a1 67 then
                                                              if zin a2 67 then
                                                                Option.bind (f_R_chosen (v270.1.2.2.1.2 a0.toNatClampNeg) (v270.1.2.2.1.2 a1.toNatClampNeg) (v270.1.2.2.1.2 a2.toNatClampNeg)) (fun v351 =>
                                                                  some (0, (((((v270.1.1.1.1.1, v270.1.1.1.1.2), v270.1.1.1.2), ((v270.1.1.2.1.1, v270.1.1.2.1.2), v270.1.1.2.2)), (((v270.1.2.1.1.1, v270.1.2.1.1.2), v270.1.2.1.2), (((vp_updL v270.1.2.2.1.1 ((65 : Int32).toNatClampNeg) (((v270.1.2.2.1.1 a1.toNatClampNeg) + (v270.1.2.2.1.1 a2.toNatClampNeg)) - (v270.1.2.2.1.1 a0.toNatClampNeg))), (upd v270.1.2.2.1.2 ((65 : Int32).toNatClampNeg) v351)), v270.1.2.2.2))), ((((v270.2.1.1.1.1, v270.2.1.1.1.2), v270.2.1.1.2), ((v270.2.1.2.1.1, v270.2.1.2.1.2), v270.2.1.2.2)), (((v270.2.2.1.1.1, v270.2.2.1.1.2), v270.2.2.1.2), (v270.2.2.2.1, v270.2.2.2.2))))))
                                                              else
                                                                none
                                                            else
                                                              none
                                                          else
                                                            none
                                                        else
                                                          none
                                                      else
                                                        none
                                                    else
                                                      none
                                                  else
                                                    some ((-16), v270))
                                              else
                                                none
                                            else
                                              none
                                          else
                                            none)
                                      else
                                        some ((-15), v244.2)))
                              else
                                none
                            else
                              none
                          else
                            none
                        else
                          none
                      else
                        none
                    else
                      none)
                else
                  none
              else
                none
            else
              none
          else
            some ((-12), ((((((vp_updL ρ.1.1.1.1.1 ((65 : Int32).toNatClampNeg) (((ρ.1.1.1.1.1 a1.toNatClampNeg) + (ρ.1.1.1.1.1 a2.toNatClampNeg)) - (ρ.1.1.1.1.1 a0.toNatClampNeg))), (upd ρ.1.1.1.1.2 ((65 : Int32).toNatClampNeg) j105_s0)), (upd ρ.1.1.1.2 ((65 : Int32).toNatClampNeg) j132_s0)), ((ρ.1.1.2.1.1, ρ.1.1.2.1.2), ρ.1.1.2.2)), (((ρ.1.2.1.1.1, ρ.1.2.1.1.2), ρ.1.2.1.2), ((ρ.1.2.2.1.1, ρ.1.2.2.1.2), ρ.1.2.2.2))), ((((ρ.2.1.1.1.1, ρ.2.1.1.1.2), ρ.2.1.1.2), ((ρ.2.1.2.1.1, ρ.2.1.2.1.2), ρ.2.1.2.2)), (((ρ.2.2.1.1.1, ρ.2.2.1.1.2), ρ.2.2.1.2), (ρ.2.2.2.1, ρ.2.2.2.2))))))
      else
        none
    else
      none
  else
    none
def J_R_mergeTrees_105 (ρ : RSt) (a0 : Int32) (a1 : Int32) (a2 : Int32) (j50_s0 : Int32) (j105_s0 : Int32) : Option (Int32 × RSt) :=
  if j50_s0 = 0 then
    if zin a2 67 then
      J_R_mergeTrees_132 ρ a0 a1 a2 j105_s0 (ρ.1.1.1.2 a2.toNatClampNeg)
    else
      none
  else
    if zin a1 67 then
      J_R_mergeTrees_132 ρ a0 a1 a2 j105_s0 (ρ.1.1.1.2 a1.toNatClampNeg)
    else
      none
def J_R_mergeTrees_50_3 (ρ : RSt) (a0 : Int32) (a1 : Int32) (a2 : Int32) (j50_s0 : Int32) : Option (Int32 × RSt) :=
  if zin a1 67 then
    if zin a2 67 then
      if zin a0 67 then
        if j50_s0 = 0 then
          if zin a2 67 then
            J_R_mergeTrees_105 ρ a0 a1 a2 j50_s0 (ρ.1.1.1.1.2 a2.toNatClampNeg)
          else
            none
        else
          if zin a1 67 then
            J_R_mergeTrees_105 ρ a0 a1 a2 j50_s0 (ρ.1.1.1.1.2 a1.toNatClampNeg)
          else
            none
      else
        none
    else
      none
  else
    none
def f_R_mergeTrees (ρ : RSt) (a0 : Int32) (a1 : Int32) (a2 : Int32) : Option (Int32 × RSt) :=
  if zin a1 67 then
    if zin a2 67 then
      if (ρ.1.1.1.2 a2.toNatClampNeg) < (ρ.1.1.1.2 a1.toNatClampNeg) then
        J_R_mergeTrees_50_3 ρ a0 a1 a2 1
      else
        if zin a1 67 then
          if zin a2 67 then
            if (ρ.1.1.1.2 a1.toNatClampNeg) = (ρ.1.1.1.2 a2.toNatClampNeg) then
              if zin a1 67 then
                if zin a2 67 then
                  if (ρ.1.1.1.1.2 a1.toNatClampNeg) < (ρ.1.1.1.1.2 a2.toNatClampNeg) then
                    J_R_mergeTrees_50_3 ρ a0 a1 a2 0
                  else
                    J_R_mergeTrees_50_3 ρ a0 a1 a2 1
                else
                  none
              else
                none
            else
              J_R_mergeTrees_50_3 ρ a0 a1 a2 0
          else
            none
        else
          none
    else
      none
  else
    none
set_option maxHeartbeats 4000000 in
set_option maxRecDepth 100000 in
theorem c_R_mergeTrees (l : Launch) (D : va_G) (tys : List (ClassId × FieldType)) (sz : Nat) (q : Nat → Nat) (cR : Nat → ClassId) (ρ : RSt) (a0 : Int32) (a1 : Int32) (a2 : Int32) (v : Int32 × RSt) (hres : f_R_mergeTrees ρ a0 a1 a2 = some v) : Met l y_R_mergeTrees w_R_mergeTrees ({ frames := 4, cells := 0, slots := 0, locals := 105 } : Room) (va_Pc ([.ref (q 0), .int a0, .int a1, .int a2]) (zrw D (zRt cR) sz (zR q cR ρ))) (qd_R_mergeTrees D tys q cR ρ a0 a1 a2 v (va_A (zR q cR ρ) sz)) 0 0 (va_A (zR q cR ρ) sz) := by
  refine Met.ofW (cc := b_R_mergeTrees) (maxL := 5) (ret := (some .int)) (by decide) rfl ?_
  intro p e s m args below meth c s₁ B hml hv
  obtain ⟨rfl, hsz, hP, hK, hD0, hN⟩ := hv
  have hx := B.exec
  have hb := B.bytes
  have hr := B.returns
  have hts : ∀ w ∈ zt, w.before ([.ref (q 0), .int a0, .int a1, .int a2].toArray) s = true := fun w h => atoms_spec (ws := w_R_mergeTrees) B.pre w (List.mem_cons_of_mem _ h)
  have hown : s.vm.findClass R_R = some m.cls := findClass_of_methodNamed B.named
  have hlocks := B.notSynchronized
  subst hsz
  have hD := hD0.self (sz := s.heap.size)
  generalize hAe : va_A (zR q cR ρ) s.heap.size = A at hD ⊢
  have hA : ∀ q : Nat, s.heap.size ≤ q → A q := fun q h => by rw [← hAe]; exact Or.inr h
  have hS : va_S A s.heap s.heap [] := va_S.rf
  have hP : va_P D vwCl (zR q cR ρ) s.heap := hP
  have hD : va_D A (zR q cR ρ) := hD
  have hl := lv_entry ([.ref (q 0), .int a0, .int a1, .int a2]) (n := 5) (Nat.le_of_ble_eq_true rfl)
  rw [lg_entry_eq]
  generalize (lg_sl ([.ref (q 0), .int a0, .int a1, .int a2]) ++ List.replicate (5 - (lg_sl ([.ref (q 0), .int a0, .int a1, .int a2])).length) Slot.unset).toArray = ls at hl ⊢
  have hl : lv_has ls 5 [(0, .ref (q 0)), (1, .int a0), (2, .int a1), (3, .int a2)] := hl
  unfold f_R_mergeTrees at hres
  refine lv_aload_n hx hb d_R_mergeTrees_0 rfl (lv_at hl 0 rfl) ?_
  refine va_get (D := D) (ci := 4) (v := .ref (q 3)) (C := R_R) (T := T_R) (N := 23) hx hb hts in_R hown hK hP (0) rfl rfl 2 (by decide) (hts _ k_430) (fun _ h9 => h9) rfl d_R_mergeTrees_1 ?_
  refine lv_iload_n hx hb d_R_mergeTrees_4 rfl (lv_at hl 2 rfl) ?_
  by_cases ck_5 : zin a1 67
  · have hres := zi_p ck_5 hres
    refine va_iald hx hb hK hP 3 2 rfl rfl ck_5 d_R_mergeTrees_5 ?_
    refine lv_aload_n hx hb d_R_mergeTrees_6 rfl (lv_at hl 0 rfl) ?_
    refine va_get (D := D) (ci := 4) (v := .ref (q 3)) (C := R_R) (T := T_R) (N := 23) hx hb hts in_R hown hK hP (0) rfl rfl 2 (by decide) (hts _ k_430) (fun _ h9 => h9) rfl d_R_mergeTrees_7 ?_
    refine lv_iload_n hx hb d_R_mergeTrees_10 rfl (lv_at hl 3 rfl) ?_
    by_cases ck_11 : zin a2 67
    · have hres := zi_p ck_11 hres
      refine va_iald hx hb hK hP 3 2 rfl rfl ck_11 d_R_mergeTrees_11 ?_
      have hj50 : ∀ (j50_s0 : Int32) (H : Heap) (locs : List Loc), va_P D vwCl (zR q cR ρ) H → va_D A (zR q cR ρ) → va_S A s.heap H locs → ∀ (ls : Array Slot), lv_has ls 5 [(0, .ref (q 0)), (1, .int a0), (2, .int a1), (3, .int a2)] → J_R_mergeTrees_50_3 ρ a0 a1 a2 j50_s0 = some v → W p l e (headSpec w_R_mergeTrees ({ frames := 4, cells := 0, slots := 0, locals := 105 } : Room)).room s m ([.ref (q 0), .int a0, .int a1, .int a2].toArray) below meth c H locs 0 0 (MQ below (qd_R_mergeTrees D tys q cR ρ a0 a1 a2 v A) ([.ref (q 0), .int a0, .int a1, .int a2].toArray) s 0 0 A) (F0 m 50 ls [.int j50_s0]) := by
        intro j50_s0 H locs hP hD hS ls hl hres
        unfold J_R_mergeTrees_50_3 at hres
        refine lv_istore (lv' := [(4, .int j50_s0), (0, .ref (q 0)), (1, .int a0), (2, .int a1), (3, .int a2)]) hx hb d_R_mergeTrees_50 hl (by decide) rfl (fun ls hl => ?_)
        refine lv_aload_n hx hb d_R_mergeTrees_52 rfl (lv_at hl 1 rfl) ?_
        refine va_get (D := D) (ci := 4) (v := .ref (q 1)) (C := R_R) (T := T_R) (N := 23) hx hb hts in_R hown hK hP (0) rfl rfl 0 (by decide) (hts _ k_428) (fun _ h9 => h9) rfl d_R_mergeTrees_53 ?_
        refine lv_bipush (v := 65) hx hb d_R_mergeTrees_56 (by decide) ?_
        refine lv_aload_n hx hb d_R_mergeTrees_58 rfl (lv_at hl 1 rfl) ?_
        refine va_get (D := D) (ci := 4) (v := .ref (q 1)) (C := R_R) (T := T_R) (N := 23) hx hb hts in_R hown hK hP (0) rfl rfl 0 (by decide) (hts _ k_428) (fun _ h9 => h9) rfl d_R_mergeTrees_59 ?_
        refine lv_iload_n hx hb d_R_mergeTrees_62 rfl (lv_at hl 3 rfl) ?_
        by_cases ck_63 : zin a1 67
        · have hres := zi_p ck_63 hres
          refine va_lald hx hb hK hP 1 0 rfl rfl ck_63 d_R_mergeTrees_63 ?_
          refine lv_aload_n hx hb d_R_mergeTrees_64 rfl (lv_at hl 1 rfl) ?_
          refine va_get (D := D) (ci := 4) (v := .ref (q 1)) (C := R_R) (T := T_R) (N := 23) hx hb hts in_R hown hK hP (0) rfl rfl 0 (by decide) (hts _ k_428) (fun _ h9 => h9) rfl d_R_mergeTrees_65 ?_
          refine lv_iload_n hx hb d_R_mergeTrees_68 rfl (lv_at hl 4 rfl) ?_
          by_cases ck_69 : zin a2 67
          · have hres := zi_p ck_69 hres
            refine va_lald hx hb hK hP 1 0 rfl rfl ck_69 d_R_mergeTrees_69 ?_
            refine lv_ladd hx hb d_R_mergeTrees_70 ?_
            refine lv_aload_n hx hb d_R_mergeTrees_71 rfl (lv_at hl 1 rfl) ?_
            refine va_get (D := D) (ci := 4) (v := .ref (q 1)) (C := R_R) (T := T_R) (N := 23) hx hb hts in_R hown hK hP (0) rfl rfl 0 (by decide) (hts _ k_428) (fun _ h9 => h9) rfl d_R_mergeTrees_72 ?_
            refine lv_iload_n hx hb d_R_mergeTrees_75 rfl (lv_at hl 2 rfl) ?_
            by_cases ck_76 : zin a0 67
            · have hres := zi_p ck_76 hres
              refine va_lald hx hb hK hP 1 0 rfl rfl ck_76 d_R_mergeTrees_76 ?_
              refine lv_lsub hx hb d_R_mergeTrees_77 ?_
              refine va_last hx hb hK hP hD hS 1 0 rfl rfl (show zin 65 67 by decide) d_R_mergeTrees_78 (fun H locs hP hD hS => ?_)
              have hP : va_P D vwCl ([(q 0, .inr (4, [.ref (q 1), .ref (q 2), .ref (q 3), .ref (q 4), .ref (q 5), .ref (q 6), .ref (q 7), .ref (q 8), .ref (q 9), .ref (q 10), .ref (q 11), .int ρ.1.2.2.2, .ref (q 12), .ref (q 13), .ref (q 14), .ref (q 15), .ref (q 16), .ref (q 17), .int ρ.2.2.1.1.1, .ref (q 18), .ref (q 19), .ref (q 20), .ref (q 21)])), (q 1, .inl (cR 1, 67, .inr (.inl (vp_updL ρ.1.1.1.1.1 ((65 : Int32).toNatClampNeg) (((ρ.1.1.1.1.1 a1.toNatClampNeg) + (ρ.1.1.1.1.1 a2.toNatClampNeg)) - (ρ.1.1.1.1.1 a0.toNatClampNeg)))))), (q 2, .inl (cR 2, 67, .inl ρ.1.1.1.1.2)), (q 3, .inl (cR 3, 67, .inl ρ.1.1.1.2)), (q 4, .inl (cR 4, 67, .inl ρ.1.1.2.1.1)), (q 5, .inl (cR 5, 67, .inr (.inl ρ.1.1.2.1.2))), (q 6, .inl (cR 6, 67, .inl ρ.1.1.2.2)), (q 7, .inl (cR 7, 536, .inl ρ.1.2.1.1.1)), (q 8, .inl (cR 8, 67, .inl ρ.1.2.1.1.2)), (q 9, .inl (cR 9, 67, .inr (.inl ρ.1.2.1.2))), (q 10, .inl (cR 10, 67, .inr (.inl ρ.1.2.2.1.1))), (q 11, .inl (cR 11, 67, .inl ρ.1.2.2.1.2)), (q 12, .inl (cR 12, 60, .inl ρ.2.1.1.1.1)), (q 13, .inl (cR 13, 60, .inl ρ.2.1.1.1.2)), (q 14, .inl (cR 14, 60, .inr (.inl ρ.2.1.1.2))), (q 15, .inl (cR 15, 60, .inr (.inl ρ.2.1.2.1.1))), (q 16, .inl (cR 16, 4, .inl ρ.2.1.2.1.2)), (q 17, .inl (cR 17, 4, .inl ρ.2.1.2.2)), (q 18, .inl (cR 18, 100, .inl ρ.2.2.1.1.2)), (q 19, .inl (cR 19, 5, .inl ρ.2.2.1.2)), (q 20, .inl (cR 20, 5, .inl ρ.2.2.2.1)), (q 21, .inl (cR 21, 5, .inl ρ.2.2.2.2))]) H := hP
              have hD : va_D A ([(q 0, .inr (4, [.ref (q 1), .ref (q 2), .ref (q 3), .ref (q 4), .ref (q 5), .ref (q 6), .ref (q 7), .ref (q 8), .ref (q 9), .ref (q 10), .ref (q 11), .int ρ.1.2.2.2, .ref (q 12), .ref (q 13), .ref (q 14), .ref (q 15), .ref (q 16), .ref (q 17), .int ρ.2.2.1.1.1, .ref (q 18), .ref (q 19), .ref (q 20), .ref (q 21)])), (q 1, .inl (cR 1, 67, .inr (.inl (vp_updL ρ.1.1.1.1.1 ((65 : Int32).toNatClampNeg) (((ρ.1.1.1.1.1 a1.toNatClampNeg) + (ρ.1.1.1.1.1 a2.toNatClampNeg)) - (ρ.1.1.1.1.1 a0.toNatClampNeg)))))), (q 2, .inl (cR 2, 67, .inl ρ.1.1.1.1.2)), (q 3, .inl (cR 3, 67, .inl ρ.1.1.1.2)), (q 4, .inl (cR 4, 67, .inl ρ.1.1.2.1.1)), (q 5, .inl (cR 5, 67, .inr (.inl ρ.1.1.2.1.2))), (q 6, .inl (cR 6, 67, .inl ρ.1.1.2.2)), (q 7, .inl (cR 7, 536, .inl ρ.1.2.1.1.1)), (q 8, .inl (cR 8, 67, .inl ρ.1.2.1.1.2)), (q 9, .inl (cR 9, 67, .inr (.inl ρ.1.2.1.2))), (q 10, .inl (cR 10, 67, .inr (.inl ρ.1.2.2.1.1))), (q 11, .inl (cR 11, 67, .inl ρ.1.2.2.1.2)), (q 12, .inl (cR 12, 60, .inl ρ.2.1.1.1.1)), (q 13, .inl (cR 13, 60, .inl ρ.2.1.1.1.2)), (q 14, .inl (cR 14, 60, .inr (.inl ρ.2.1.1.2))), (q 15, .inl (cR 15, 60, .inr (.inl ρ.2.1.2.1.1))), (q 16, .inl (cR 16, 4, .inl ρ.2.1.2.1.2)), (q 17, .inl (cR 17, 4, .inl ρ.2.1.2.2)), (q 18, .inl (cR 18, 100, .inl ρ.2.2.1.1.2)), (q 19, .inl (cR 19, 5, .inl ρ.2.2.1.2)), (q 20, .inl (cR 20, 5, .inl ρ.2.2.2.1)), (q 21, .inl (cR 21, 5, .inl ρ.2.2.2.2))]) := hD
              refine lv_aload_n hx hb d_R_mergeTrees_79 rfl (lv_at hl 1 rfl) ?_
              refine va_get (D := D) (ci := 4) (v := .ref (q 2)) (C := R_R) (T := T_R) (N := 23) hx hb hts in_R hown hK hP (0) rfl rfl 1 (by decide) (hts _ k_429) (fun _ h9 => h9) rfl d_R_mergeTrees_80 ?_
              refine lv_bipush (v := 65) hx hb d_R_mergeTrees_83 (by decide) ?_
              refine lv_iload hx hb d_R_mergeTrees_85 (lv_at hl 0 rfl) ?_
              have hj105 : ∀ (j105_s0 : Int32) (H : Heap) (locs : List Loc), va_P D vwCl ([(q 0, .inr (4, [.ref (q 1), .ref (q 2), .ref (q 3), .ref (q 4), .ref (q 5), .ref (q 6), .ref (q 7), .ref (q 8), .ref (q 9), .ref (q 10), .ref (q 11), .int ρ.1.2.2.2, .ref (q 12), .ref (q 13), .ref (q 14), .ref (q 15), .ref (q 16), .ref (q 17), .int ρ.2.2.1.1.1, .ref (q 18), .ref (q 19), .ref (q 20), .ref (q 21)])), (q 1, .inl (cR 1, 67, .inr (.inl (vp_updL ρ.1.1.1.1.1 ((65 : Int32).toNatClampNeg) (((ρ.1.1.1.1.1 a1.toNatClampNeg) + (ρ.1.1.1.1.1 a2.toNatClampNeg)) - (ρ.1.1.1.1.1 a0.toNatClampNeg)))))), (q 2, .inl (cR 2, 67, .inl ρ.1.1.1.1.2)), (q 3, .inl (cR 3, 67, .inl ρ.1.1.1.2)), (q 4, .inl (cR 4, 67, .inl ρ.1.1.2.1.1)), (q 5, .inl (cR 5, 67, .inr (.inl ρ.1.1.2.1.2))), (q 6, .inl (cR 6, 67, .inl ρ.1.1.2.2)), (q 7, .inl (cR 7, 536, .inl ρ.1.2.1.1.1)), (q 8, .inl (cR 8, 67, .inl ρ.1.2.1.1.2)), (q 9, .inl (cR 9, 67, .inr (.inl ρ.1.2.1.2))), (q 10, .inl (cR 10, 67, .inr (.inl ρ.1.2.2.1.1))), (q 11, .inl (cR 11, 67, .inl ρ.1.2.2.1.2)), (q 12, .inl (cR 12, 60, .inl ρ.2.1.1.1.1)), (q 13, .inl (cR 13, 60, .inl ρ.2.1.1.1.2)), (q 14, .inl (cR 14, 60, .inr (.inl ρ.2.1.1.2))), (q 15, .inl (cR 15, 60, .inr (.inl ρ.2.1.2.1.1))), (q 16, .inl (cR 16, 4, .inl ρ.2.1.2.1.2)), (q 17, .inl (cR 17, 4, .inl ρ.2.1.2.2)), (q 18, .inl (cR 18, 100, .inl ρ.2.2.1.1.2)), (q 19, .inl (cR 19, 5, .inl ρ.2.2.1.2)), (q 20, .inl (cR 20, 5, .inl ρ.2.2.2.1)), (q 21, .inl (cR 21, 5, .inl ρ.2.2.2.2))]) H → va_D A ([(q 0, .inr (4, [.ref (q 1), .ref (q 2), .ref (q 3), .ref (q 4), .ref (q 5), .ref (q 6), .ref (q 7), .ref (q 8), .ref (q 9), .ref (q 10), .ref (q 11), .int ρ.1.2.2.2, .ref (q 12), .ref (q 13), .ref (q 14), .ref (q 15), .ref (q 16), .ref (q 17), .int ρ.2.2.1.1.1, .ref (q 18), .ref (q 19), .ref (q 20), .ref (q 21)])), (q 1, .inl (cR 1, 67, .inr (.inl (vp_updL ρ.1.1.1.1.1 ((65 : Int32).toNatClampNeg) (((ρ.1.1.1.1.1 a1.toNatClampNeg) + (ρ.1.1.1.1.1 a2.toNatClampNeg)) - (ρ.1.1.1.1.1 a0.toNatClampNeg)))))), (q 2, .inl (cR 2, 67, .inl ρ.1.1.1.1.2)), (q 3, .inl (cR 3, 67, .inl ρ.1.1.1.2)), (q 4, .inl (cR 4, 67, .inl ρ.1.1.2.1.1)), (q 5, .inl (cR 5, 67, .inr (.inl ρ.1.1.2.1.2))), (q 6, .inl (cR 6, 67, .inl ρ.1.1.2.2)), (q 7, .inl (cR 7, 536, .inl ρ.1.2.1.1.1)), (q 8, .inl (cR 8, 67, .inl ρ.1.2.1.1.2)), (q 9, .inl (cR 9, 67, .inr (.inl ρ.1.2.1.2))), (q 10, .inl (cR 10, 67, .inr (.inl ρ.1.2.2.1.1))), (q 11, .inl (cR 11, 67, .inl ρ.1.2.2.1.2)), (q 12, .inl (cR 12, 60, .inl ρ.2.1.1.1.1)), (q 13, .inl (cR 13, 60, .inl ρ.2.1.1.1.2)), (q 14, .inl (cR 14, 60, .inr (.inl ρ.2.1.1.2))), (q 15, .inl (cR 15, 60, .inr (.inl ρ.2.1.2.1.1))), (q 16, .inl (cR 16, 4, .inl ρ.2.1.2.1.2)), (q 17, .inl (cR 17, 4, .inl ρ.2.1.2.2)), (q 18, .inl (cR 18, 100, .inl ρ.2.2.1.1.2)), (q 19, .inl (cR 19, 5, .inl ρ.2.2.1.2)), (q 20, .inl (cR 20, 5, .inl ρ.2.2.2.1)), (q 21, .inl (cR 21, 5, .inl ρ.2.2.2.2))]) → va_S A s.heap H locs → ∀ (ls : Array Slot), lv_has ls 5 [(4, .int j50_s0), (0, .ref (q 0)), (1, .int a0), (2, .int a1), (3, .int a2)] → J_R_mergeTrees_105 ρ a0 a1 a2 j50_s0 j105_s0 = some v → W p l e (headSpec w_R_mergeTrees ({ frames := 4, cells := 0, slots := 0, locals := 105 } : Room)).room s m ([.ref (q 0), .int a0, .int a1, .int a2].toArray) below meth c H locs 0 0 (MQ below (qd_R_mergeTrees D tys q cR ρ a0 a1 a2 v A) ([.ref (q 0), .int a0, .int a1, .int a2].toArray) s 0 0 A) (F0 m 105 ls [.int j105_s0, .int 65, .ref (q 2)]) := by
                intro j105_s0 H locs hP hD hS ls hl hres
                unfold J_R_mergeTrees_105 at hres
                refine va_iast hx hb hK hP hD hS 2 1 rfl rfl (show zin 65 67 by decide) d_R_mergeTrees_105 (fun H locs hP hD hS => ?_)
                have hP : va_P D vwCl ([(q 0, .inr (4, [.ref (q 1), .ref (q 2), .ref (q 3), .ref (q 4), .ref (q 5), .ref (q 6), .ref (q 7), .ref (q 8), .ref (q 9), .ref (q 10), .ref (q 11), .int ρ.1.2.2.2, .ref (q 12), .ref (q 13), .ref (q 14), .ref (q 15), .ref (q 16), .ref (q 17), .int ρ.2.2.1.1.1, .ref (q 18), .ref (q 19), .ref (q 20), .ref (q 21)])), (q 1, .inl (cR 1, 67, .inr (.inl (vp_updL ρ.1.1.1.1.1 ((65 : Int32).toNatClampNeg) (((ρ.1.1.1.1.1 a1.toNatClampNeg) + (ρ.1.1.1.1.1 a2.toNatClampNeg)) - (ρ.1.1.1.1.1 a0.toNatClampNeg)))))), (q 2, .inl (cR 2, 67, .inl (upd ρ.1.1.1.1.2 ((65 : Int32).toNatClampNeg) j105_s0))), (q 3, .inl (cR 3, 67, .inl ρ.1.1.1.2)), (q 4, .inl (cR 4, 67, .inl ρ.1.1.2.1.1)), (q 5, .inl (cR 5, 67, .inr (.inl ρ.1.1.2.1.2))), (q 6, .inl (cR 6, 67, .inl ρ.1.1.2.2)), (q 7, .inl (cR 7, 536, .inl ρ.1.2.1.1.1)), (q 8, .inl (cR 8, 67, .inl ρ.1.2.1.1.2)), (q 9, .inl (cR 9, 67, .inr (.inl ρ.1.2.1.2))), (q 10, .inl (cR 10, 67, .inr (.inl ρ.1.2.2.1.1))), (q 11, .inl (cR 11, 67, .inl ρ.1.2.2.1.2)), (q 12, .inl (cR 12, 60, .inl ρ.2.1.1.1.1)), (q 13, .inl (cR 13, 60, .inl ρ.2.1.1.1.2)), (q 14, .inl (cR 14, 60, .inr (.inl ρ.2.1.1.2))), (q 15, .inl (cR 15, 60, .inr (.inl ρ.2.1.2.1.1))), (q 16, .inl (cR 16, 4, .inl ρ.2.1.2.1.2)), (q 17, .inl (cR 17, 4, .inl ρ.2.1.2.2)), (q 18, .inl (cR 18, 100, .inl ρ.2.2.1.1.2)), (q 19, .inl (cR 19, 5, .inl ρ.2.2.1.2)), (q 20, .inl (cR 20, 5, .inl ρ.2.2.2.1)), (q 21, .inl (cR 21, 5, .inl ρ.2.2.2.2))]) H := hP
                have hD : va_D A ([(q 0, .inr (4, [.ref (q 1), .ref (q 2), .ref (q 3), .ref (q 4), .ref (q 5), .ref (q 6), .ref (q 7), .ref (q 8), .ref (q 9), .ref (q 10), .ref (q 11), .int ρ.1.2.2.2, .ref (q 12), .ref (q 13), .ref (q 14), .ref (q 15), .ref (q 16), .ref (q 17), .int ρ.2.2.1.1.1, .ref (q 18), .ref (q 19), .ref (q 20), .ref (q 21)])), (q 1, .inl (cR 1, 67, .inr (.inl (vp_updL ρ.1.1.1.1.1 ((65 : Int32).toNatClampNeg) (((ρ.1.1.1.1.1 a1.toNatClampNeg) + (ρ.1.1.1.1.1 a2.toNatClampNeg)) - (ρ.1.1.1.1.1 a0.toNatClampNeg)))))), (q 2, .inl (cR 2, 67, .inl (upd ρ.1.1.1.1.2 ((65 : Int32).toNatClampNeg) j105_s0))), (q 3, .inl (cR 3, 67, .inl ρ.1.1.1.2)), (q 4, .inl (cR 4, 67, .inl ρ.1.1.2.1.1)), (q 5, .inl (cR 5, 67, .inr (.inl ρ.1.1.2.1.2))), (q 6, .inl (cR 6, 67, .inl ρ.1.1.2.2)), (q 7, .inl (cR 7, 536, .inl ρ.1.2.1.1.1)), (q 8, .inl (cR 8, 67, .inl ρ.1.2.1.1.2)), (q 9, .inl (cR 9, 67, .inr (.inl ρ.1.2.1.2))), (q 10, .inl (cR 10, 67, .inr (.inl ρ.1.2.2.1.1))), (q 11, .inl (cR 11, 67, .inl ρ.1.2.2.1.2)), (q 12, .inl (cR 12, 60, .inl ρ.2.1.1.1.1)), (q 13, .inl (cR 13, 60, .inl ρ.2.1.1.1.2)), (q 14, .inl (cR 14, 60, .inr (.inl ρ.2.1.1.2))), (q 15, .inl (cR 15, 60, .inr (.inl ρ.2.1.2.1.1))), (q 16, .inl (cR 16, 4, .inl ρ.2.1.2.1.2)), (q 17, .inl (cR 17, 4, .inl ρ.2.1.2.2)), (q 18, .inl (cR 18, 100, .inl ρ.2.2.1.1.2)), (q 19, .inl (cR 19, 5, .inl ρ.2.2.1.2)), (q 20, .inl (cR 20, 5, .inl ρ.2.2.2.1)), (q 21, .inl (cR 21, 5, .inl ρ.2.2.2.2))]) := hD
                refine lv_aload_n hx hb d_R_mergeTrees_106 rfl (lv_at hl 1 rfl) ?_
                refine va_get (D := D) (ci := 4) (v := .ref (q 3)) (C := R_R) (T := T_R) (N := 23) hx hb hts in_R hown hK hP (0) rfl rfl 2 (by decide) (hts _ k_430) (fun _ h9 => h9) rfl d_R_mergeTrees_107 ?_
                refine lv_bipush (v := 65) hx hb d_R_mergeTrees_110 (by decide) ?_
                refine lv_iload hx hb d_R_mergeTrees_112 (lv_at hl 0 rfl) ?_
                have hj132 : ∀ (j132_s0 : Int32) (H : Heap) (locs : List Loc), va_P D vwCl ([(q 0, .inr (4, [.ref (q 1), .ref (q 2), .ref (q 3), .ref (q 4), .ref (q 5), .ref (q 6), .ref (q 7), .ref (q 8), .ref (q 9), .ref (q 10), .ref (q 11), .int ρ.1.2.2.2, .ref (q 12), .ref (q 13), .ref (q 14), .ref (q 15), .ref (q 16), .ref (q 17), .int ρ.2.2.1.1.1, .ref (q 18), .ref (q 19), .ref (q 20), .ref (q 21)])), (q 1, .inl (cR 1, 67, .inr (.inl (vp_updL ρ.1.1.1.1.1 ((65 : Int32).toNatClampNeg) (((ρ.1.1.1.1.1 a1.toNatClampNeg) + (ρ.1.1.1.1.1 a2.toNatClampNeg)) - (ρ.1.1.1.1.1 a0.toNatClampNeg)))))), (q 2, .inl (cR 2, 67, .inl (upd ρ.1.1.1.1.2 ((65 : Int32).toNatClampNeg) j105_s0))), (q 3, .inl (cR 3, 67, .inl ρ.1.1.1.2)), (q 4, .inl (cR 4, 67, .inl ρ.1.1.2.1.1)), (q 5, .inl (cR 5, 67, .inr (.inl ρ.1.1.2.1.2))), (q 6, .inl (cR 6, 67, .inl ρ.1.1.2.2)), (q 7, .inl (cR 7, 536, .inl ρ.1.2.1.1.1)), (q 8, .inl (cR 8, 67, .inl ρ.1.2.1.1.2)), (q 9, .inl (cR 9, 67, .inr (.inl ρ.1.2.1.2))), (q 10, .inl (cR 10, 67, .inr (.inl ρ.1.2.2.1.1))), (q 11, .inl (cR 11, 67, .inl ρ.1.2.2.1.2)), (q 12, .inl (cR 12, 60, .inl ρ.2.1.1.1.1)), (q 13, .inl (cR 13, 60, .inl ρ.2.1.1.1.2)), (q 14, .inl (cR 14, 60, .inr (.inl ρ.2.1.1.2))), (q 15, .inl (cR 15, 60, .inr (.inl ρ.2.1.2.1.1))), (q 16, .inl (cR 16, 4, .inl ρ.2.1.2.1.2)), (q 17, .inl (cR 17, 4, .inl ρ.2.1.2.2)), (q 18, .inl (cR 18, 100, .inl ρ.2.2.1.1.2)), (q 19, .inl (cR 19, 5, .inl ρ.2.2.1.2)), (q 20, .inl (cR 20, 5, .inl ρ.2.2.2.1)), (q 21, .inl (cR 21, 5, .inl ρ.2.2.2.2))]) H → va_D A ([(q 0, .inr (4, [.ref (q 1), .ref (q 2), .ref (q 3), .ref (q 4), .ref (q 5), .ref (q 6), .ref (q 7), .ref (q 8), .ref (q 9), .ref (q 10), .ref (q 11), .int ρ.1.2.2.2, .ref (q 12), .ref (q 13), .ref (q 14), .ref (q 15), .ref (q 16), .ref (q 17), .int ρ.2.2.1.1.1, .ref (q 18), .ref (q 19), .ref (q 20), .ref (q 21)])), (q 1, .inl (cR 1, 67, .inr (.inl (vp_updL ρ.1.1.1.1.1 ((65 : Int32).toNatClampNeg) (((ρ.1.1.1.1.1 a1.toNatClampNeg) + (ρ.1.1.1.1.1 a2.toNatClampNeg)) - (ρ.1.1.1.1.1 a0.toNatClampNeg)))))), (q 2, .inl (cR 2, 67, .inl (upd ρ.1.1.1.1.2 ((65 : Int32).toNatClampNeg) j105_s0))), (q 3, .inl (cR 3, 67, .inl ρ.1.1.1.2)), (q 4, .inl (cR 4, 67, .inl ρ.1.1.2.1.1)), (q 5, .inl (cR 5, 67, .inr (.inl ρ.1.1.2.1.2))), (q 6, .inl (cR 6, 67, .inl ρ.1.1.2.2)), (q 7, .inl (cR 7, 536, .inl ρ.1.2.1.1.1)), (q 8, .inl (cR 8, 67, .inl ρ.1.2.1.1.2)), (q 9, .inl (cR 9, 67, .inr (.inl ρ.1.2.1.2))), (q 10, .inl (cR 10, 67, .inr (.inl ρ.1.2.2.1.1))), (q 11, .inl (cR 11, 67, .inl ρ.1.2.2.1.2)), (q 12, .inl (cR 12, 60, .inl ρ.2.1.1.1.1)), (q 13, .inl (cR 13, 60, .inl ρ.2.1.1.1.2)), (q 14, .inl (cR 14, 60, .inr (.inl ρ.2.1.1.2))), (q 15, .inl (cR 15, 60, .inr (.inl ρ.2.1.2.1.1))), (q 16, .inl (cR 16, 4, .inl ρ.2.1.2.1.2)), (q 17, .inl (cR 17, 4, .inl ρ.2.1.2.2)), (q 18, .inl (cR 18, 100, .inl ρ.2.2.1.1.2)), (q 19, .inl (cR 19, 5, .inl ρ.2.2.1.2)), (q 20, .inl (cR 20, 5, .inl ρ.2.2.2.1)), (q 21, .inl (cR 21, 5, .inl ρ.2.2.2.2))]) → va_S A s.heap H locs → ∀ (ls : Array Slot), lv_has ls 5 [(4, .int j50_s0), (0, .ref (q 0)), (1, .int a0), (2, .int a1), (3, .int a2)] → J_R_mergeTrees_132 ρ a0 a1 a2 j105_s0 j132_s0 = some v → W p l e (headSpec w_R_mergeTrees ({ frames := 4, cells := 0, slots := 0, locals := 105 } : Room)).room s m ([.ref (q 0), .int a0, .int a1, .int a2].toArray) below meth c H locs 0 0 (MQ below (qd_R_mergeTrees D tys q cR ρ a0 a1 a2 v A) ([.ref (q 0), .int a0, .int a1, .int a2].toArray) s 0 0 A) (F0 m 132 ls [.int j132_s0, .int 65, .ref (q 3)]) := by
                  intro j132_s0 H locs hP hD hS ls hl hres
                  unfold J_R_mergeTrees_132 at hres
                  refine va_iast hx hb hK hP hD hS 3 2 rfl rfl (show zin 65 67 by decide) d_R_mergeTrees_132 (fun H locs hP hD hS => ?_)
                  have hP : va_P D vwCl ([(q 0, .inr (4, [.ref (q 1), .ref (q 2), .ref (q 3), .ref (q 4), .ref (q 5), .ref (q 6), .ref (q 7), .ref (q 8), .ref (q 9), .ref (q 10), .ref (q 11), .int ρ.1.2.2.2, .ref (q 12), .ref (q 13), .ref (q 14), .ref (q 15), .ref (q 16), .ref (q 17), .int ρ.2.2.1.1.1, .ref (q 18), .ref (q 19), .ref (q 20), .ref (q 21)])), (q 1, .inl (cR 1, 67, .inr (.inl (vp_updL ρ.1.1.1.1.1 ((65 : Int32).toNatClampNeg) (((ρ.1.1.1.1.1 a1.toNatClampNeg) + (ρ.1.1.1.1.1 a2.toNatClampNeg)) - (ρ.1.1.1.1.1 a0.toNatClampNeg)))))), (q 2, .inl (cR 2, 67, .inl (upd ρ.1.1.1.1.2 ((65 : Int32).toNatClampNeg) j105_s0))), (q 3, .inl (cR 3, 67, .inl (upd ρ.1.1.1.2 ((65 : Int32).toNatClampNeg) j132_s0))), (q 4, .inl (cR 4, 67, .inl ρ.1.1.2.1.1)), (q 5, .inl (cR 5, 67, .inr (.inl ρ.1.1.2.1.2))), (q 6, .inl (cR 6, 67, .inl ρ.1.1.2.2)), (q 7, .inl (cR 7, 536, .inl ρ.1.2.1.1.1)), (q 8, .inl (cR 8, 67, .inl ρ.1.2.1.1.2)), (q 9, .inl (cR 9, 67, .inr (.inl ρ.1.2.1.2))), (q 10, .inl (cR 10, 67, .inr (.inl ρ.1.2.2.1.1))), (q 11, .inl (cR 11, 67, .inl ρ.1.2.2.1.2)), (q 12, .inl (cR 12, 60, .inl ρ.2.1.1.1.1)), (q 13, .inl (cR 13, 60, .inl ρ.2.1.1.1.2)), (q 14, .inl (cR 14, 60, .inr (.inl ρ.2.1.1.2))), (q 15, .inl (cR 15, 60, .inr (.inl ρ.2.1.2.1.1))), (q 16, .inl (cR 16, 4, .inl ρ.2.1.2.1.2)), (q 17, .inl (cR 17, 4, .inl ρ.2.1.2.2)), (q 18, .inl (cR 18, 100, .inl ρ.2.2.1.1.2)), (q 19, .inl (cR 19, 5, .inl ρ.2.2.1.2)), (q 20, .inl (cR 20, 5, .inl ρ.2.2.2.1)), (q 21, .inl (cR 21, 5, .inl ρ.2.2.2.2))]) H := hP
                  have hD : va_D A ([(q 0, .inr (4, [.ref (q 1), .ref (q 2), .ref (q 3), .ref (q 4), .ref (q 5), .ref (q 6), .ref (q 7), .ref (q 8), .ref (q 9), .ref (q 10), .ref (q 11), .int ρ.1.2.2.2, .ref (q 12), .ref (q 13), .ref (q 14), .ref (q 15), .ref (q 16), .ref (q 17), .int ρ.2.2.1.1.1, .ref (q 18), .ref (q 19), .ref (q 20), .ref (q 21)])), (q 1, .inl (cR 1, 67, .inr (.inl (vp_updL ρ.1.1.1.1.1 ((65 : Int32).toNatClampNeg) (((ρ.1.1.1.1.1 a1.toNatClampNeg) + (ρ.1.1.1.1.1 a2.toNatClampNeg)) - (ρ.1.1.1.1.1 a0.toNatClampNeg)))))), (q 2, .inl (cR 2, 67, .inl (upd ρ.1.1.1.1.2 ((65 : Int32).toNatClampNeg) j105_s0))), (q 3, .inl (cR 3, 67, .inl (upd ρ.1.1.1.2 ((65 : Int32).toNatClampNeg) j132_s0))), (q 4, .inl (cR 4, 67, .inl ρ.1.1.2.1.1)), (q 5, .inl (cR 5, 67, .inr (.inl ρ.1.1.2.1.2))), (q 6, .inl (cR 6, 67, .inl ρ.1.1.2.2)), (q 7, .inl (cR 7, 536, .inl ρ.1.2.1.1.1)), (q 8, .inl (cR 8, 67, .inl ρ.1.2.1.1.2)), (q 9, .inl (cR 9, 67, .inr (.inl ρ.1.2.1.2))), (q 10, .inl (cR 10, 67, .inr (.inl ρ.1.2.2.1.1))), (q 11, .inl (cR 11, 67, .inl ρ.1.2.2.1.2)), (q 12, .inl (cR 12, 60, .inl ρ.2.1.1.1.1)), (q 13, .inl (cR 13, 60, .inl ρ.2.1.1.1.2)), (q 14, .inl (cR 14, 60, .inr (.inl ρ.2.1.1.2))), (q 15, .inl (cR 15, 60, .inr (.inl ρ.2.1.2.1.1))), (q 16, .inl (cR 16, 4, .inl ρ.2.1.2.1.2)), (q 17, .inl (cR 17, 4, .inl ρ.2.1.2.2)), (q 18, .inl (cR 18, 100, .inl ρ.2.2.1.1.2)), (q 19, .inl (cR 19, 5, .inl ρ.2.2.1.2)), (q 20, .inl (cR 20, 5, .inl ρ.2.2.2.1)), (q 21, .inl (cR 21, 5, .inl ρ.2.2.2.2))]) := hD
                  refine lv_aload_n hx hb d_R_mergeTrees_133 rfl (lv_at hl 1 rfl) ?_
                  refine va_get (D := D) (ci := 4) (v := .ref (q 4)) (C := R_R) (T := T_R) (N := 23) hx hb hts in_R hown hK hP (0) rfl rfl 3 (by decide) (hts _ k_431) (fun _ h9 => h9) rfl d_R_mergeTrees_134 ?_
                  refine lv_iload_n hx hb d_R_mergeTrees_137 rfl (lv_at hl 2 rfl) ?_
                  by_cases ck_138 : zin a0 67
                  · have hres := zi_p ck_138 hres
                    refine va_iald hx hb hK hP 4 3 rfl rfl ck_138 d_R_mergeTrees_138 ?_
                    refine lv_aload_n hx hb d_R_mergeTrees_139 rfl (lv_at hl 1 rfl) ?_
                    refine va_get (D := D) (ci := 4) (v := .ref (q 4)) (C := R_R) (T := T_R) (N := 23) hx hb hts in_R hown hK hP (0) rfl rfl 3 (by decide) (hts _ k_431) (fun _ h9 => h9) rfl d_R_mergeTrees_140 ?_
                    refine lv_iload_n hx hb d_R_mergeTrees_143 rfl (lv_at hl 3 rfl) ?_
                    by_cases ck_144 : zin a1 67
                    · have hres := zi_p ck_144 hres
                      refine va_iald hx hb hK hP 4 3 rfl rfl ck_144 d_R_mergeTrees_144 ?_
                      refine lv_aload_n hx hb d_R_mergeTrees_145 rfl (lv_at hl 1 rfl) ?_
                      refine va_get (D := D) (ci := 4) (v := .ref (q 4)) (C := R_R) (T := T_R) (N := 23) hx hb hts in_R hown hK hP (0) rfl rfl 3 (by decide) (hts _ k_431) (fun _ h9 => h9) rfl d_R_mergeTrees_146 ?_
                      refine lv_iload_n hx hb d_R_mergeTrees_149 rfl (lv_at hl 4 rfl) ?_
                      by_cases ck_150 : zin a2 67
                      · have hres := zi_p ck_150 hres
                        refine va_iald hx hb hK hP 4 3 rfl rfl ck_150 d_R_mergeTrees_150 ?_
                        obtain ⟨v151, hc151, hres⟩ := zo_b hres
                        refine vp_callSi (va_Run.run (va_runS (As := [.int (ρ.1.1.2.1.1 a0.toNatClampNeg), .int (ρ.1.1.2.1.1 a1.toNatClampNeg), .int (ρ.1.1.2.1.1 a2.toNatClampNeg)]) (rest := []) ⟨hx, hb, hml, hown, hts⟩ (c_R_torn l D (zRt cR) (ρ.1.1.2.1.1 a0.toNatClampNeg) (ρ.1.1.2.1.1 a1.toNatClampNeg) (ρ.1.1.2.1.1 a2.toNatClampNeg) v151 hc151) (va_cwS 3 hts (zg_S k_579 k_580 k_32 g_R_torn) rfl rfl rfl hd_R_torn ⟨Nat.le_of_ble_eq_true rfl, Nat.le_of_ble_eq_true rfl⟩) ⟨zro_b _, zro_p va_Pnil hK hN _⟩ rfl rfl hl.1 rfl (lv_room (Nat.le_of_ble_eq_true rfl)) d_R_mergeTrees_151 ⟨Nat.zero_le _, Nat.zero_le _⟩)) (fun r_151 er_151 => ?_)
                        have er_151 := er_151.symm
                        subst er_151
                        refine lv_if_eq (tgt := 160) hx hb d_R_mergeTrees_154 (by decide) (fun c_154 => ?_) (fun c_154 => ?_)
                        · have hres := zi_p c_154 hres
                          refine lv_aload_n hx hb d_R_mergeTrees_160 rfl (lv_at hl 1 rfl) ?_
                          refine va_get (D := D) (ci := 4) (v := .ref (q 4)) (C := R_R) (T := T_R) (N := 23) hx hb hts in_R hown hK hP (0) rfl rfl 3 (by decide) (hts _ k_431) (fun _ h9 => h9) rfl d_R_mergeTrees_161 ?_
                          refine lv_bipush (v := 65) hx hb d_R_mergeTrees_164 (by decide) ?_
                          refine lv_aload_n hx hb d_R_mergeTrees_166 rfl (lv_at hl 1 rfl) ?_
                          refine va_get (D := D) (ci := 4) (v := .ref (q 4)) (C := R_R) (T := T_R) (N := 23) hx hb hts in_R hown hK hP (0) rfl rfl 3 (by decide) (hts _ k_431) (fun _ h9 => h9) rfl d_R_mergeTrees_167 ?_
                          refine lv_iload_n hx hb d_R_mergeTrees_170 rfl (lv_at hl 2 rfl) ?_
                          by_cases ck_171 : zin a0 67
                          · have hres := zi_p ck_171 hres
                            refine va_iald hx hb hK hP 4 3 rfl rfl ck_171 d_R_mergeTrees_171 ?_
                            refine lv_aload_n hx hb d_R_mergeTrees_172 rfl (lv_at hl 1 rfl) ?_
                            refine va_get (D := D) (ci := 4) (v := .ref (q 4)) (C := R_R) (T := T_R) (N := 23) hx hb hts in_R hown hK hP (0) rfl rfl 3 (by decide) (hts _ k_431) (fun _ h9 => h9) rfl d_R_mergeTrees_173 ?_
                            refine lv_iload_n hx hb d_R_mergeTrees_176 rfl (lv_at hl 3 rfl) ?_
                            by_cases ck_177 : zin a1 67
                            · have hres := zi_p ck_177 hres
                              refine va_iald hx hb hK hP 4 3 rfl rfl ck_177 d_R_mergeTrees_177 ?_
                              refine lv_aload_n hx hb d_R_mergeTrees_178 rfl (lv_at hl 1 rfl) ?_
                              refine va_get (D := D) (ci := 4) (v := .ref (q 4)) (C := R_R) (T := T_R) (N := 23) hx hb hts in_R hown hK hP (0) rfl rfl 3 (by decide) (hts _ k_431) (fun _ h9 => h9) rfl d_R_mergeTrees_179 ?_
                              refine lv_iload_n hx hb d_R_mergeTrees_182 rfl (lv_at hl 4 rfl) ?_
                              by_cases ck_183 : zin a2 67
                              · have hres := zi_p ck_183 hres
                                refine va_iald hx hb hK hP 4 3 rfl rfl ck_183 d_R_mergeTrees_183 ?_
                                obtain ⟨v184, hc184, hres⟩ := zo_b hres
                                refine vp_callSi (va_Run.run (va_runS (As := [.int (ρ.1.1.2.1.1 a0.toNatClampNeg), .int (ρ.1.1.2.1.1 a1.toNatClampNeg), .int (ρ.1.1.2.1.1 a2.toNatClampNeg)]) (rest := [.int 65, .ref (q 4)]) ⟨hx, hb, hml, hown, hts⟩ (c_R_chosen l D (zRt cR) (ρ.1.1.2.1.1 a0.toNatClampNeg) (ρ.1.1.2.1.1 a1.toNatClampNeg) (ρ.1.1.2.1.1 a2.toNatClampNeg) v184 hc184) (va_cwS 3 hts (zg_S k_582 k_583 k_32 g_R_chosen) rfl rfl rfl hd_R_chosen ⟨Nat.le_of_ble_eq_true rfl, Nat.le_of_ble_eq_true rfl⟩) ⟨zro_b _, zro_p va_Pnil hK hN _⟩ rfl rfl hl.1 rfl (lv_room (Nat.le_of_ble_eq_true rfl)) d_R_mergeTrees_184 ⟨Nat.zero_le _, Nat.zero_le _⟩)) (fun r_184 er_184 => ?_)
                                have er_184 := er_184.symm
                                subst er_184
                                refine va_iast hx hb hK hP hD hS 4 3 rfl rfl (show zin 65 67 by decide) d_R_mergeTrees_187 (fun H locs hP hD hS => ?_)
                                have hP : va_P D vwCl ([(q 0, .inr (4, [.ref (q 1), .ref (q 2), .ref (q 3), .ref (q 4), .ref (q 5), .ref (q 6), .ref (q 7), .ref (q 8), .ref (q 9), .ref (q 10), .ref (q 11), .int ρ.1.2.2.2, .ref (q 12), .ref (q 13), .ref (q 14), .ref (q 15), .ref (q 16), .ref (q 17), .int ρ.2.2.1.1.1, .ref (q 18), .ref (q 19), .ref (q 20), .ref (q 21)])), (q 1, .inl (cR 1, 67, .inr (.inl (vp_updL ρ.1.1.1.1.1 ((65 : Int32).toNatClampNeg) (((ρ.1.1.1.1.1 a1.toNatClampNeg) + (ρ.1.1.1.1.1 a2.toNatClampNeg)) - (ρ.1.1.1.1.1 a0.toNatClampNeg)))))), (q 2, .inl (cR 2, 67, .inl (upd ρ.1.1.1.1.2 ((65 : Int32).toNatClampNeg) j105_s0))), (q 3, .inl (cR 3, 67, .inl (upd ρ.1.1.1.2 ((65 : Int32).toNatClampNeg) j132_s0))), (q 4, .inl (cR 4, 67, .inl (upd ρ.1.1.2.1.1 ((65 : Int32).toNatClampNeg) v184))), (q 5, .inl (cR 5, 67, .inr (.inl ρ.1.1.2.1.2))), (q 6, .inl (cR 6, 67, .inl ρ.1.1.2.2)), (q 7, .inl (cR 7, 536, .inl ρ.1.2.1.1.1)), (q 8, .inl (cR 8, 67, .inl ρ.1.2.1.1.2)), (q 9, .inl (cR 9, 67, .inr (.inl ρ.1.2.1.2))), (q 10, .inl (cR 10, 67, .inr (.inl ρ.1.2.2.1.1))), (q 11, .inl (cR 11, 67, .inl ρ.1.2.2.1.2)), (q 12, .inl (cR 12, 60, .inl ρ.2.1.1.1.1)), (q 13, .inl (cR 13, 60, .inl ρ.2.1.1.1.2)), (q 14, .inl (cR 14, 60, .inr (.inl ρ.2.1.1.2))), (q 15, .inl (cR 15, 60, .inr (.inl ρ.2.1.2.1.1))), (q 16, .inl (cR 16, 4, .inl ρ.2.1.2.1.2)), (q 17, .inl (cR 17, 4, .inl ρ.2.1.2.2)), (q 18, .inl (cR 18, 100, .inl ρ.2.2.1.1.2)), (q 19, .inl (cR 19, 5, .inl ρ.2.2.1.2)), (q 20, .inl (cR 20, 5, .inl ρ.2.2.2.1)), (q 21, .inl (cR 21, 5, .inl ρ.2.2.2.2))]) H := hP
                                have hD : va_D A ([(q 0, .inr (4, [.ref (q 1), .ref (q 2), .ref (q 3), .ref (q 4), .ref (q 5), .ref (q 6), .ref (q 7), .ref (q 8), .ref (q 9), .ref (q 10), .ref (q 11), .int ρ.1.2.2.2, .ref (q 12), .ref (q 13), .ref (q 14), .ref (q 15), .ref (q 16), .ref (q 17), .int ρ.2.2.1.1.1, .ref (q 18), .ref (q 19), .ref (q 20), .ref (q 21)])), (q 1, .inl (cR 1, 67, .inr (.inl (vp_updL ρ.1.1.1.1.1 ((65 : Int32).toNatClampNeg) (((ρ.1.1.1.1.1 a1.toNatClampNeg) + (ρ.1.1.1.1.1 a2.toNatClampNeg)) - (ρ.1.1.1.1.1 a0.toNatClampNeg)))))), (q 2, .inl (cR 2, 67, .inl (upd ρ.1.1.1.1.2 ((65 : Int32).toNatClampNeg) j105_s0))), (q 3, .inl (cR 3, 67, .inl (upd ρ.1.1.1.2 ((65 : Int32).toNatClampNeg) j132_s0))), (q 4, .inl (cR 4, 67, .inl (upd ρ.1.1.2.1.1 ((65 : Int32).toNatClampNeg) v184))), (q 5, .inl (cR 5, 67, .inr (.inl ρ.1.1.2.1.2))), (q 6, .inl (cR 6, 67, .inl ρ.1.1.2.2)), (q 7, .inl (cR 7, 536, .inl ρ.1.2.1.1.1)), (q 8, .inl (cR 8, 67, .inl ρ.1.2.1.1.2)), (q 9, .inl (cR 9, 67, .inr (.inl ρ.1.2.1.2))), (q 10, .inl (cR 10, 67, .inr (.inl ρ.1.2.2.1.1))), (q 11, .inl (cR 11, 67, .inl ρ.1.2.2.1.2)), (q 12, .inl (cR 12, 60, .inl ρ.2.1.1.1.1)), (q 13, .inl (cR 13, 60, .inl ρ.2.1.1.1.2)), (q 14, .inl (cR 14, 60, .inr (.inl ρ.2.1.1.2))), (q 15, .inl (cR 15, 60, .inr (.inl ρ.2.1.2.1.1))), (q 16, .inl (cR 16, 4, .inl ρ.2.1.2.1.2)), (q 17, .inl (cR 17, 4, .inl ρ.2.1.2.2)), (q 18, .inl (cR 18, 100, .inl ρ.2.2.1.1.2)), (q 19, .inl (cR 19, 5, .inl ρ.2.2.1.2)), (q 20, .inl (cR 20, 5, .inl ρ.2.2.2.1)), (q 21, .inl (cR 21, 5, .inl ρ.2.2.2.2))]) := hD
                                refine lv_aload_n hx hb d_R_mergeTrees_188 rfl (lv_at hl 1 rfl) ?_
                                refine va_get (D := D) (ci := 4) (v := .ref (q 5)) (C := R_R) (T := T_R) (N := 23) hx hb hts in_R hown hK hP (0) rfl rfl 4 (by decide) (hts _ k_432) (fun _ h9 => h9) rfl d_R_mergeTrees_189 ?_
                                refine lv_bipush (v := 65) hx hb d_R_mergeTrees_192 (by decide) ?_
                                refine lv_aload_n hx hb d_R_mergeTrees_194 rfl (lv_at hl 1 rfl) ?_
                                refine va_get (D := D) (ci := 4) (v := .ref (q 5)) (C := R_R) (T := T_R) (N := 23) hx hb hts in_R hown hK hP (0) rfl rfl 4 (by decide) (hts _ k_432) (fun _ h9 => h9) rfl d_R_mergeTrees_195 ?_
                                refine lv_iload_n hx hb d_R_mergeTrees_198 rfl (lv_at hl 2 rfl) ?_
                                by_cases ck_199 : zin a0 67
                                · have hres := zi_p ck_199 hres
                                  refine va_lald hx hb hK hP 5 4 rfl rfl ck_199 d_R_mergeTrees_199 ?_
                                  refine lv_aload_n hx hb d_R_mergeTrees_200 rfl (lv_at hl 1 rfl) ?_
                                  refine va_get (D := D) (ci := 4) (v := .ref (q 5)) (C := R_R) (T := T_R) (N := 23) hx hb hts in_R hown hK hP (0) rfl rfl 4 (by decide) (hts _ k_432) (fun _ h9 => h9) rfl d_R_mergeTrees_201 ?_
                                  refine lv_iload_n hx hb d_R_mergeTrees_204 rfl (lv_at hl 3 rfl) ?_
                                  by_cases ck_205 : zin a1 67
                                  · have hres := zi_p ck_205 hres
                                    refine va_lald hx hb hK hP 5 4 rfl rfl ck_205 d_R_mergeTrees_205 ?_
                                    refine lv_land hx hb d_R_mergeTrees_206 ?_
                                    refine lv_aload_n hx hb d_R_mergeTrees_207 rfl (lv_at hl 1 rfl) ?_
                                    refine va_get (D := D) (ci := 4) (v := .ref (q 5)) (C := R_R) (T := T_R) (N := 23) hx hb hts in_R hown hK hP (0) rfl rfl 4 (by decide) (hts _ k_432) (fun _ h9 => h9) rfl d_R_mergeTrees_208 ?_
                                    refine lv_iload_n hx hb d_R_mergeTrees_211 rfl (lv_at hl 4 rfl) ?_
                                    by_cases ck_212 : zin a2 67
                                    · have hres := zi_p ck_212 hres
                                      refine va_lald hx hb hK hP 5 4 rfl rfl ck_212 d_R_mergeTrees_212 ?_
                                      refine lv_land hx hb d_R_mergeTrees_213 ?_
                                      refine lv_aload_n hx hb d_R_mergeTrees_214 rfl (lv_at hl 1 rfl) ?_
                                      refine va_get (D := D) (ci := 4) (v := .ref (q 5)) (C := R_R) (T := T_R) (N := 23) hx hb hts in_R hown hK hP (0) rfl rfl 4 (by decide) (hts _ k_432) (fun _ h9 => h9) rfl d_R_mergeTrees_215 ?_
                                      refine lv_iload_n hx hb d_R_mergeTrees_218 rfl (lv_at hl 3 rfl) ?_
                                      by_cases ck_219 : zin a1 67
                                      · have hres := zi_p ck_219 hres
                                        refine va_lald hx hb hK hP 5 4 rfl rfl ck_219 d_R_mergeTrees_219 ?_
                                        refine lv_aload_n hx hb d_R_mergeTrees_220 rfl (lv_at hl 1 rfl) ?_
                                        refine va_get (D := D) (ci := 4) (v := .ref (q 5)) (C := R_R) (T := T_R) (N := 23) hx hb hts in_R hown hK hP (0) rfl rfl 4 (by decide) (hts _ k_432) (fun _ h9 => h9) rfl d_R_mergeTrees_221 ?_
                                        refine lv_iload_n hx hb d_R_mergeTrees_224 rfl (lv_at hl 4 rfl) ?_
                                        by_cases ck_225 : zin a2 67
                                        · have hres := zi_p ck_225 hres
                                          refine va_lald hx hb hK hP 5 4 rfl rfl ck_225 d_R_mergeTrees_225 ?_
                                          refine lv_lor hx hb d_R_mergeTrees_226 ?_
                                          refine lv_aload_n hx hb d_R_mergeTrees_227 rfl (lv_at hl 1 rfl) ?_
                                          refine va_get (D := D) (ci := 4) (v := .ref (q 5)) (C := R_R) (T := T_R) (N := 23) hx hb hts in_R hown hK hP (0) rfl rfl 4 (by decide) (hts _ k_432) (fun _ h9 => h9) rfl d_R_mergeTrees_228 ?_
                                          refine lv_iload_n hx hb d_R_mergeTrees_231 rfl (lv_at hl 2 rfl) ?_
                                          by_cases ck_232 : zin a0 67
                                          · have hres := zi_p ck_232 hres
                                            refine va_lald hx hb hK hP 5 4 rfl rfl ck_232 d_R_mergeTrees_232 ?_
                                            refine lv_ldc2 (v := (-1)) hx hb hown (hts _ k_585) d_R_mergeTrees_233 ?_
                                            refine lv_lxor hx hb d_R_mergeTrees_236 ?_
                                            refine lv_land hx hb d_R_mergeTrees_237 ?_
                                            refine lv_lor hx hb d_R_mergeTrees_238 ?_
                                            refine va_last hx hb hK hP hD hS 5 4 rfl rfl (show zin 65 67 by decide) d_R_mergeTrees_239 (fun H locs hP hD hS => ?_)
                                            have hP : va_P D vwCl ([(q 0, .inr (4, [.ref (q 1), .ref (q 2), .ref (q 3), .ref (q 4), .ref (q 5), .ref (q 6), .ref (q 7), .ref (q 8), .ref (q 9), .ref (q 10), .ref (q 11), .int ρ.1.2.2.2, .ref (q 12), .ref (q 13), .ref (q 14), .ref (q 15), .ref (q 16), .ref (q 17), .int ρ.2.2.1.1.1, .ref (q 18), .ref (q 19), .ref (q 20), .ref (q 21)])), (q 1, .inl (cR 1, 67, .inr (.inl (vp_updL ρ.1.1.1.1.1 ((65 : Int32).toNatClampNeg) (((ρ.1.1.1.1.1 a1.toNatClampNeg) + (ρ.1.1.1.1.1 a2.toNatClampNeg)) - (ρ.1.1.1.1.1 a0.toNatClampNeg)))))), (q 2, .inl (cR 2, 67, .inl (upd ρ.1.1.1.1.2 ((65 : Int32).toNatClampNeg) j105_s0))), (q 3, .inl (cR 3, 67, .inl (upd ρ.1.1.1.2 ((65 : Int32).toNatClampNeg) j132_s0))), (q 4, .inl (cR 4, 67, .inl (upd ρ.1.1.2.1.1 ((65 : Int32).toNatClampNeg) v184))), (q 5, .inl (cR 5, 67, .inr (.inl (vp_updL ρ.1.1.2.1.2 ((65 : Int32).toNatClampNeg) ((((ρ.1.1.2.1.2 a0.toNatClampNeg) &&& (ρ.1.1.2.1.2 a1.toNatClampNeg)) &&& (ρ.1.1.2.1.2 a2.toNatClampNeg)) ||| (((ρ.1.1.2.1.2 a1.toNatClampNeg) ||| (ρ.1.1.2.1.2 a2.toNatClampNeg)) &&& ((ρ.1.1.2.1.2 a0.toNatClampNeg) ^^^ (-1)))))))), (q 6, .inl (cR 6, 67, .inl ρ.1.1.2.2)), (q 7, .inl (cR 7, 536, .inl ρ.1.2.1.1.1)), (q 8, .inl (cR 8, 67, .inl ρ.1.2.1.1.2)), (q 9, .inl (cR 9, 67, .inr (.inl ρ.1.2.1.2))), (q 10, .inl (cR 10, 67, .inr (.inl ρ.1.2.2.1.1))), (q 11, .inl (cR 11, 67, .inl ρ.1.2.2.1.2)), (q 12, .inl (cR 12, 60, .inl ρ.2.1.1.1.1)), (q 13, .inl (cR 13, 60, .inl ρ.2.1.1.1.2)), (q 14, .inl (cR 14, 60, .inr (.inl ρ.2.1.1.2))), (q 15, .inl (cR 15, 60, .inr (.inl ρ.2.1.2.1.1))), (q 16, .inl (cR 16, 4, .inl ρ.2.1.2.1.2)), (q 17, .inl (cR 17, 4, .inl ρ.2.1.2.2)), (q 18, .inl (cR 18, 100, .inl ρ.2.2.1.1.2)), (q 19, .inl (cR 19, 5, .inl ρ.2.2.1.2)), (q 20, .inl (cR 20, 5, .inl ρ.2.2.2.1)), (q 21, .inl (cR 21, 5, .inl ρ.2.2.2.2))]) H := hP
                                            have hD : va_D A ([(q 0, .inr (4, [.ref (q 1), .ref (q 2), .ref (q 3), .ref (q 4), .ref (q 5), .ref (q 6), .ref (q 7), .ref (q 8), .ref (q 9), .ref (q 10), .ref (q 11), .int ρ.1.2.2.2, .ref (q 12), .ref (q 13), .ref (q 14), .ref (q 15), .ref (q 16), .ref (q 17), .int ρ.2.2.1.1.1, .ref (q 18), .ref (q 19), .ref (q 20), .ref (q 21)])), (q 1, .inl (cR 1, 67, .inr (.inl (vp_updL ρ.1.1.1.1.1 ((65 : Int32).toNatClampNeg) (((ρ.1.1.1.1.1 a1.toNatClampNeg) + (ρ.1.1.1.1.1 a2.toNatClampNeg)) - (ρ.1.1.1.1.1 a0.toNatClampNeg)))))), (q 2, .inl (cR 2, 67, .inl (upd ρ.1.1.1.1.2 ((65 : Int32).toNatClampNeg) j105_s0))), (q 3, .inl (cR 3, 67, .inl (upd ρ.1.1.1.2 ((65 : Int32).toNatClampNeg) j132_s0))), (q 4, .inl (cR 4, 67, .inl (upd ρ.1.1.2.1.1 ((65 : Int32).toNatClampNeg) v184))), (q 5, .inl (cR 5, 67, .inr (.inl (vp_updL ρ.1.1.2.1.2 ((65 : Int32).toNatClampNeg) ((((ρ.1.1.2.1.2 a0.toNatClampNeg) &&& (ρ.1.1.2.1.2 a1.toNatClampNeg)) &&& (ρ.1.1.2.1.2 a2.toNatClampNeg)) ||| (((ρ.1.1.2.1.2 a1.toNatClampNeg) ||| (ρ.1.1.2.1.2 a2.toNatClampNeg)) &&& ((ρ.1.1.2.1.2 a0.toNatClampNeg) ^^^ (-1)))))))), (q 6, .inl (cR 6, 67, .inl ρ.1.1.2.2)), (q 7, .inl (cR 7, 536, .inl ρ.1.2.1.1.1)), (q 8, .inl (cR 8, 67, .inl ρ.1.2.1.1.2)), (q 9, .inl (cR 9, 67, .inr (.inl ρ.1.2.1.2))), (q 10, .inl (cR 10, 67, .inr (.inl ρ.1.2.2.1.1))), (q 11, .inl (cR 11, 67, .inl ρ.1.2.2.1.2)), (q 12, .inl (cR 12, 60, .inl ρ.2.1.1.1.1)), (q 13, .inl (cR 13, 60, .inl ρ.2.1.1.1.2)), (q 14, .inl (cR 14, 60, .inr (.inl ρ.2.1.1.2))), (q 15, .inl (cR 15, 60, .inr (.inl ρ.2.1.2.1.1))), (q 16, .inl (cR 16, 4, .inl ρ.2.1.2.1.2)), (q 17, .inl (cR 17, 4, .inl ρ.2.1.2.2)), (q 18, .inl (cR 18, 100, .inl ρ.2.2.1.1.2)), (q 19, .inl (cR 19, 5, .inl ρ.2.2.1.2)), (q 20, .inl (cR 20, 5, .inl ρ.2.2.2.1)), (q 21, .inl (cR 21, 5, .inl ρ.2.2.2.2))]) := hD
                                            refine lv_aload_n hx hb d_R_mergeTrees_240 rfl (lv_at hl 1 rfl) ?_
                                            refine lv_iload_n hx hb d_R_mergeTrees_241 rfl (lv_at hl 2 rfl) ?_
                                            refine lv_iload_n hx hb d_R_mergeTrees_242 rfl (lv_at hl 3 rfl) ?_
                                            refine lv_iload_n hx hb d_R_mergeTrees_243 rfl (lv_at hl 4 rfl) ?_
                                            obtain ⟨v244, hc244, hres⟩ := zo_b hres
                                            refine zw_i (ws' := zR q cR v244.2) (v := v244.1) (va_runV (As := [.int a0, .int a1, .int a2]) (rest := []) ⟨hx, hb, hml, hown, hts⟩ (c_R_mergeQueues l D (zRt cR) _ q cR ((((((vp_updL ρ.1.1.1.1.1 ((65 : Int32).toNatClampNeg) (((ρ.1.1.1.1.1 a1.toNatClampNeg) + (ρ.1.1.1.1.1 a2.toNatClampNeg)) - (ρ.1.1.1.1.1 a0.toNatClampNeg))), (upd ρ.1.1.1.1.2 ((65 : Int32).toNatClampNeg) j105_s0)), (upd ρ.1.1.1.2 ((65 : Int32).toNatClampNeg) j132_s0)), (((upd ρ.1.1.2.1.1 ((65 : Int32).toNatClampNeg) v184), (vp_updL ρ.1.1.2.1.2 ((65 : Int32).toNatClampNeg) ((((ρ.1.1.2.1.2 a0.toNatClampNeg) &&& (ρ.1.1.2.1.2 a1.toNatClampNeg)) &&& (ρ.1.1.2.1.2 a2.toNatClampNeg)) ||| (((ρ.1.1.2.1.2 a1.toNatClampNeg) ||| (ρ.1.1.2.1.2 a2.toNatClampNeg)) &&& ((ρ.1.1.2.1.2 a0.toNatClampNeg) ^^^ (-1)))))), ρ.1.1.2.2)), (((ρ.1.2.1.1.1, ρ.1.2.1.1.2), ρ.1.2.1.2), ((ρ.1.2.2.1.1, ρ.1.2.2.1.2), ρ.1.2.2.2))), ((((ρ.2.1.1.1.1, ρ.2.1.1.1.2), ρ.2.1.1.2), ((ρ.2.1.2.1.1, ρ.2.1.2.1.2), ρ.2.1.2.2)), (((ρ.2.2.1.1.1, ρ.2.2.1.1.2), ρ.2.2.1.2), (ρ.2.2.2.1, ρ.2.2.2.2)))) a0 a1 a2 v244 hc244) (cwV 3 hts (zg_V k_586 k_588 k_22 k_32 g_R_mergeQueues) rfl rfl rfl ⟨rfl, hd_R_mergeQueues⟩ ⟨Nat.le_of_ble_eq_true rfl, Nat.le_of_ble_eq_true rfl⟩) ⟨zrw_b _, va_recv hK hP (q0 := 0) rfl rfl, zrw_w hP hD hK hN _⟩ rfl rfl hl.1 rfl (lv_room (Nat.le_of_ble_eq_true rfl)) d_R_mergeTrees_244 ⟨Nat.le_of_ble_eq_true rfl, Nat.le_of_ble_eq_true rfl⟩) hD hS hA (fun H locs hP hD hS => ?_)
                                            have hP : va_P D vwCl (zR q cR v244.2) H := hP
                                            have hD : va_D A (zR q cR v244.2) := hD
                                            refine lv_if_ne (tgt := 253) hx hb d_R_mergeTrees_247 (by decide) (fun c_247 => ?_) (fun c_247 => ?_)
                                            · have hres := zi_n c_247 hres
                                              refine lv_aload_n hx hb d_R_mergeTrees_253 rfl (lv_at hl 1 rfl) ?_
                                              refine lv_iload_n hx hb d_R_mergeTrees_254 rfl (lv_at hl 2 rfl) ?_
                                              refine lv_iload_n hx hb d_R_mergeTrees_255 rfl (lv_at hl 3 rfl) ?_
                                              refine lv_iload_n hx hb d_R_mergeTrees_256 rfl (lv_at hl 4 rfl) ?_
                                              obtain ⟨v257, hc257, hres⟩ := zo_b hres
                                              refine vp_callSi (va_Run.run (va_runV (As := [.int a0, .int a1, .int a2]) (rest := []) ⟨hx, hb, hml, hown, hts⟩ (c_R_optionTorn l D (zRt cR) q cR v244.2 a0 a1 a2 v257 hc257) (cwV 3 hts (zg_V k_602 k_604 k_26 k_32 g_R_optionTorn) rfl rfl rfl ⟨rfl, hd_R_optionTorn⟩ ⟨Nat.le_of_ble_eq_true rfl, Nat.le_of_ble_eq_true rfl⟩) ⟨zro_b _, va_recv hK hP (q0 := 0) rfl rfl, zro_p hP hK hN _⟩ rfl rfl hl.1 rfl (lv_room (Nat.le_of_ble_eq_true rfl)) d_R_mergeTrees_257 ⟨Nat.zero_le _, Nat.zero_le _⟩)) (fun r_257 er_257 => ?_)
                                              have er_257 := er_257.symm
                                              subst er_257
                                              refine lv_if_eq (tgt := 266) hx hb d_R_mergeTrees_260 (by decide) (fun c_260 => ?_) (fun c_260 => ?_)
                                              · have hres := zi_p c_260 hres
                                                refine lv_aload_n hx hb d_R_mergeTrees_266 rfl (lv_at hl 1 rfl) ?_
                                                refine lv_iload_n hx hb d_R_mergeTrees_267 rfl (lv_at hl 2 rfl) ?_
                                                refine lv_iload_n hx hb d_R_mergeTrees_268 rfl (lv_at hl 3 rfl) ?_
                                                refine lv_iload_n hx hb d_R_mergeTrees_269 rfl (lv_at hl 4 rfl) ?_
                                                obtain ⟨v270, hc270, hres⟩ := zo_b hres
                                                refine zw_v (ws' := zR q cR v270) (va_runV (As := [.int a0, .int a1, .int a2]) (rest := []) ⟨hx, hb, hml, hown, hts⟩ (c_R_mergeOptions l D (zRt cR) _ q cR v244.2 a0 a1 a2 v270 hc270) (cwV 3 hts (zg_V k_606 k_608 k_27 k_32 g_R_mergeOptions) rfl rfl rfl ⟨rfl, hd_R_mergeOptions⟩ ⟨Nat.le_of_ble_eq_true rfl, Nat.le_of_ble_eq_true rfl⟩) ⟨zrw_b _, va_recv hK hP (q0 := 0) rfl rfl, zrw_w hP hD hK hN _⟩ rfl rfl hl.1 rfl (lv_room (Nat.le_of_ble_eq_true rfl)) d_R_mergeTrees_270 ⟨Nat.le_of_ble_eq_true rfl, Nat.le_of_ble_eq_true rfl⟩) hD hS hA (fun H locs hP hD hS => ?_)
                                                have hP : va_P D vwCl (zR q cR v270) H := hP
                                                have hD : va_D A (zR q cR v270) := hD
                                                refine lv_aload_n hx hb d_R_mergeTrees_273 rfl (lv_at hl 1 rfl) ?_
                                                refine va_get (D := D) (ci := 4) (v := .ref (q 11)) (C := R_R) (T := T_R) (N := 23) hx hb hts in_R hown hK hP (0) rfl rfl 10 (by decide) (hts _ k_438) (fun _ h9 => h9) rfl d_R_mergeTrees_274 ?_
                                                refine lv_iload_n hx hb d_R_mergeTrees_277 rfl (lv_at hl 2 rfl) ?_
                                                by_cases ck_278 : zin a0 67
                                                · have hres := zi_p ck_278 hres
                                                  refine va_iald hx hb hK hP 11 10 rfl rfl ck_278 d_R_mergeTrees_278 ?_
                                                  refine lv_aload_n hx hb d_R_mergeTrees_279 rfl (lv_at hl 1 rfl) ?_
                                                  refine va_get (D := D) (ci := 4) (v := .ref (q 11)) (C := R_R) (T := T_R) (N := 23) hx hb hts in_R hown hK hP (0) rfl rfl 10 (by decide) (hts _ k_438) (fun _ h9 => h9) rfl d_R_mergeTrees_280 ?_
                                                  refine lv_iload_n hx hb d_R_mergeTrees_283 rfl (lv_at hl 3 rfl) ?_
                                                  by_cases ck_284 : zin a1 67
                                                  · have hres := zi_p ck_284 hres
                                                    refine va_iald hx hb hK hP 11 10 rfl rfl ck_284 d_R_mergeTrees_284 ?_
                                                    refine lv_aload_n hx hb d_R_mergeTrees_285 rfl (lv_at hl 1 rfl) ?_
                                                    refine va_get (D := D) (ci := 4) (v := .ref (q 11)) (C := R_R) (T := T_R) (N := 23) hx hb hts in_R hown hK hP (0) rfl rfl 10 (by decide) (hts _ k_438) (fun _ h9 => h9) rfl d_R_mergeTrees_286 ?_
                                                    refine lv_iload_n hx hb d_R_mergeTrees_289 rfl (lv_at hl 4 rfl) ?_
                                                    by_cases ck_290 : zin a2 67
                                                    · have hres := zi_p ck_290 hres
                                                      refine va_iald hx hb hK hP 11 10 rfl rfl ck_290 d_R_mergeTrees_290 ?_
                                                      obtain ⟨v291, hc291, hres⟩ := zo_b hres
                                                      refine vp_callSi (va_Run.run (va_runS (As := [.int (v270.1.2.2.1.2 a0.toNatClampNeg), .int (v270.1.2.2.1.2 a1.toNatClampNeg), .int (v270.1.2.2.1.2 a2.toNatClampNeg)]) (rest := []) ⟨hx, hb, hml, hown, hts⟩ (c_R_torn l D (zRt cR) (v270.1.2.2.1.2 a0.toNatClampNeg) (v270.1.2.2.1.2 a1.toNatClampNeg) (v270.1.2.2.1.2 a2.toNatClampNeg) v291 hc291) (va_cwS 3 hts (zg_S k_579 k_580 k_32 g_R_torn) rfl rfl rfl hd_R_torn ⟨Nat.le_of_ble_eq_true rfl, Nat.le_of_ble_eq_true rfl⟩) ⟨zro_b _, zro_p va_Pnil hK hN _⟩ rfl rfl hl.1 rfl (lv_room (Nat.le_of_ble_eq_true rfl)) d_R_mergeTrees_291 ⟨Nat.zero_le _, Nat.zero_le _⟩)) (fun r_291 er_291 => ?_)
                                                      have er_291 := er_291.symm
                                                      subst er_291
                                                      refine lv_if_eq (tgt := 300) hx hb d_R_mergeTrees_294 (by decide) (fun c_294 => ?_) (fun c_294 => ?_)
                                                      · have hres := zi_p c_294 hres
                                                        refine lv_aload_n hx hb d_R_mergeTrees_300 rfl (lv_at hl 1 rfl) ?_
                                                        refine va_get (D := D) (ci := 4) (v := .ref (q 10)) (C := R_R) (T := T_R) (N := 23) hx hb hts in_R hown hK hP (0) rfl rfl 9 (by decide) (hts _ k_437) (fun _ h9 => h9) rfl d_R_mergeTrees_301 ?_
                                                        refine lv_bipush (v := 65) hx hb d_R_mergeTrees_304 (by decide) ?_
                                                        refine lv_aload_n hx hb d_R_mergeTrees_306 rfl (lv_at hl 1 rfl) ?_
                                                        refine va_get (D := D) (ci := 4) (v := .ref (q 10)) (C := R_R) (T := T_R) (N := 23) hx hb hts in_R hown hK hP (0) rfl rfl 9 (by decide) (hts _ k_437) (fun _ h9 => h9) rfl d_R_mergeTrees_307 ?_
                                                        refine lv_iload_n hx hb d_R_mergeTrees_310 rfl (lv_at hl 3 rfl) ?_
                                                        by_cases ck_311 : zin a1 67
                                                        · have hres := zi_p ck_311 hres
                                                          refine va_lald hx hb hK hP 10 9 rfl rfl ck_311 d_R_mergeTrees_311 ?_
                                                          refine lv_aload_n hx hb d_R_mergeTrees_312 rfl (lv_at hl 1 rfl) ?_
                                                          refine va_get (D := D) (ci := 4) (v := .ref (q 10)) (C := R_R) (T := T_R) (N := 23) hx hb hts in_R hown hK hP (0) rfl rfl 9 (by decide) (hts _ k_437) (fun _ h9 => h9) rfl d_R_mergeTrees_313 ?_
                                                          refine lv_iload_n hx hb d_R_mergeTrees_316 rfl (lv_at hl 4 rfl) ?_
                                                          by_cases ck_317 : zin a2 67
                                                          · have hres := zi_p ck_317 hres
                                                            refine va_lald hx hb hK hP 10 9 rfl rfl ck_317 d_R_mergeTrees_317 ?_
                                                            refine lv_ladd hx hb d_R_mergeTrees_318 ?_
                                                            refine lv_aload_n hx hb d_R_mergeTrees_319 rfl (lv_at hl 1 rfl) ?_
                                                            refine va_get (D := D) (ci := 4) (v := .ref (q 10)) (C := R_R) (T := T_R) (N := 23) hx hb hts in_R hown hK hP (0) rfl rfl 9 (by decide) (hts _ k_437) (fun _ h9 => h9) rfl d_R_mergeTrees_320 ?_
                                                            refine lv_iload_n hx hb d_R_mergeTrees_323 rfl (lv_at hl 2 rfl) ?_
                                                            by_cases ck_324 : zin a0 67
                                                            · have hres := zi_p ck_324 hres
                                                              refine va_lald hx hb hK hP 10 9 rfl rfl ck_324 d_R_mergeTrees_324 ?_
                                                              refine lv_lsub hx hb d_R_mergeTrees_325 ?_
                                                              refine va_last hx hb hK hP hD hS 10 9 rfl rfl (show zin 65 67 by decide) d_R_mergeTrees_326 (fun H locs hP hD hS => ?_)
                                                              have hP : va_P D vwCl ([(q 0, .inr (4, [.ref (q 1), .ref (q 2), .ref (q 3), .ref (q 4), .ref (q 5), .ref (q 6), .ref (q 7), .ref (q 8), .ref (q 9), .ref (q 10), .ref (q 11), .int v270.1.2.2.2, .ref (q 12), .ref (q 13), .ref (q 14), .ref (q 15), .ref (q 16), .ref (q 17), .int v270.2.2.1.1.1, .ref (q 18), .ref (q 19), .ref (q 20), .ref (q 21)])), (q 1, .inl (cR 1, 67, .inr (.inl v270.1.1.1.1.1))), (q 2, .inl (cR 2, 67, .inl v270.1.1.1.1.2)), (q 3, .inl (cR 3, 67, .inl v270.1.1.1.2)), (q 4, .inl (cR 4, 67, .inl v270.1.1.2.1.1)), (q 5, .inl (cR 5, 67, .inr (.inl v270.1.1.2.1.2))), (q 6, .inl (cR 6, 67, .inl v270.1.1.2.2)), (q 7, .inl (cR 7, 536, .inl v270.1.2.1.1.1)), (q 8, .inl (cR 8, 67, .inl v270.1.2.1.1.2)), (q 9, .inl (cR 9, 67, .inr (.inl v270.1.2.1.2))), (q 10, .inl (cR 10, 67, .inr (.inl (vp_updL v270.1.2.2.1.1 ((65 : Int32).toNatClampNeg) (((v270.1.2.2.1.1 a1.toNatClampNeg) + (v270.1.2.2.1.1 a2.toNatClampNeg)) - (v270.1.2.2.1.1 a0.toNatClampNeg)))))), (q 11, .inl (cR 11, 67, .inl v270.1.2.2.1.2)), (q 12, .inl (cR 12, 60, .inl v270.2.1.1.1.1)), (q 13, .inl (cR 13, 60, .inl v270.2.1.1.1.2)), (q 14, .inl (cR 14, 60, .inr (.inl v270.2.1.1.2))), (q 15, .inl (cR 15, 60, .inr (.inl v270.2.1.2.1.1))), (q 16, .inl (cR 16, 4, .inl v270.2.1.2.1.2)), (q 17, .inl (cR 17, 4, .inl v270.2.1.2.2)), (q 18, .inl (cR 18, 100, .inl v270.2.2.1.1.2)), (q 19, .inl (cR 19, 5, .inl v270.2.2.1.2)), (q 20, .inl (cR 20, 5, .inl v270.2.2.2.1)), (q 21, .inl (cR 21, 5, .inl v270.2.2.2.2))]) H := hP
                                                              have hD : va_D A ([(q 0, .inr (4, [.ref (q 1), .ref (q 2), .ref (q 3), .ref (q 4), .ref (q 5), .ref (q 6), .ref (q 7), .ref (q 8), .ref (q 9), .ref (q 10), .ref (q 11), .int v270.1.2.2.2, .ref (q 12), .ref (q 13), .ref (q 14), .ref (q 15), .ref (q 16), .ref (q 17), .int v270.2.2.1.1.1, .ref (q 18), .ref (q 19), .ref (q 20), .ref (q 21)])), (q 1, .inl (cR 1, 67, .inr (.inl v270.1.1.1.1.1))), (q 2, .inl (cR 2, 67, .inl v270.1.1.1.1.2)), (q 3, .inl (cR 3, 67, .inl v270.1.1.1.2)), (q 4, .inl (cR 4, 67, .inl v270.1.1.2.1.1)), (q 5, .inl (cR 5, 67, .inr (.inl v270.1.1.2.1.2))), (q 6, .inl (cR 6, 67, .inl v270.1.1.2.2)), (q 7, .inl (cR 7, 536, .inl v270.1.2.1.1.1)), (q 8, .inl (cR 8, 67, .inl v270.1.2.1.1.2)), (q 9, .inl (cR 9, 67, .inr (.inl v270.1.2.1.2))), (q 10, .inl (cR 10, 67, .inr (.inl (vp_updL v270.1.2.2.1.1 ((65 : Int32).toNatClampNeg) (((v270.1.2.2.1.1 a1.toNatClampNeg) + (v270.1.2.2.1.1 a2.toNatClampNeg)) - (v270.1.2.2.1.1 a0.toNatClampNeg)))))), (q 11, .inl (cR 11, 67, .inl v270.1.2.2.1.2)), (q 12, .inl (cR 12, 60, .inl v270.2.1.1.1.1)), (q 13, .inl (cR 13, 60, .inl v270.2.1.1.1.2)), (q 14, .inl (cR 14, 60, .inr (.inl v270.2.1.1.2))), (q 15, .inl (cR 15, 60, .inr (.inl v270.2.1.2.1.1))), (q 16, .inl (cR 16, 4, .inl v270.2.1.2.1.2)), (q 17, .inl (cR 17, 4, .inl v270.2.1.2.2)), (q 18, .inl (cR 18, 100, .inl v270.2.2.1.1.2)), (q 19, .inl (cR 19, 5, .inl v270.2.2.1.2)), (q 20, .inl (cR 20, 5, .inl v270.2.2.2.1)), (q 21, .inl (cR 21, 5, .inl v270.2.2.2.2))]) := hD
                                                              refine lv_aload_n hx hb d_R_mergeTrees_327 rfl (lv_at hl 1 rfl) ?_
                                                              refine va_get (D := D) (ci := 4) (v := .ref (q 11)) (C := R_R) (T := T_R) (N := 23) hx hb hts in_R hown hK hP (0) rfl rfl 10 (by decide) (hts _ k_438) (fun _ h9 => h9) rfl d_R_mergeTrees_328 ?_
                                                              refine lv_bipush (v := 65) hx hb d_R_mergeTrees_331 (by decide) ?_
                                                              refine lv_aload_n hx hb d_R_mergeTrees_333 rfl (lv_at hl 1 rfl) ?_
                                                              refine va_get (D := D) (ci := 4) (v := .ref (q 11)) (C := R_R) (T := T_R) (N := 23) hx hb hts in_R hown hK hP (0) rfl rfl 10 (by decide) (hts _ k_438) (fun _ h9 => h9) rfl d_R_mergeTrees_334 ?_
                                                              refine lv_iload_n hx hb d_R_mergeTrees_337 rfl (lv_at hl 2 rfl) ?_
                                                              by_cases ck_338 : zin a0 67
                                                              · have hres := zi_p ck_338 hres
                                                                refine va_iald hx hb hK hP 11 10 rfl rfl ck_338 d_R_mergeTrees_338 ?_
                                                                refine lv_aload_n hx hb d_R_mergeTrees_339 rfl (lv_at hl 1 rfl) ?_
                                                                refine va_get (D := D) (ci := 4) (v := .ref (q 11)) (C := R_R) (T := T_R) (N := 23) hx hb hts in_R hown hK hP (0) rfl rfl 10 (by decide) (hts _ k_438) (fun _ h9 => h9) rfl d_R_mergeTrees_340 ?_
                                                                refine lv_iload_n hx hb d_R_mergeTrees_343 rfl (lv_at hl 3 rfl) ?_
                                                                by_cases ck_344 : zin a1 67
                                                                · have hres := zi_p ck_344 hres
                                                                  refine va_iald hx hb hK hP 11 10 rfl rfl ck_344 d_R_mergeTrees_344 ?_
                                                                  refine lv_aload_n hx hb d_R_mergeTrees_345 rfl (lv_at hl 1 rfl) ?_
                                                                  refine va_get (D := D) (ci := 4) (v := .ref (q 11)) (C := R_R) (T := T_R) (N := 23) hx hb hts in_R hown hK hP (0) rfl rfl 10 (by decide) (hts _ k_438) (fun _ h9 => h9) rfl d_R_mergeTrees_346 ?_
                                                                  refine lv_iload_n hx hb d_R_mergeTrees_349 rfl (lv_at hl 4 rfl) ?_
                                                                  by_cases ck_350 : zin a2 67
                                                                  · have hres := zi_p ck_350 hres
                                                                    refine va_iald hx hb hK hP 11 10 rfl rfl ck_350 d_R_mergeTrees_350 ?_
                                                                    obtain ⟨v351, hc351, hres⟩ := zo_b hres
                                                                    refine vp_callSi (va_Run.run (va_runS (As := [.int (v270.1.2.2.1.2 a0.toNatClampNeg), .int (v270.1.2.2.1.2 a1.toNatClampNeg), .int (v270.1.2.2.1.2 a2.toNatClampNeg)]) (rest := [.int 65, .ref (q 11)]) ⟨hx, hb, hml, hown, hts⟩ (c_R_chosen l D (zRt cR) (v270.1.2.2.1.2 a0.toNatClampNeg) (v270.1.2.2.1.2 a1.toNatClampNeg) (v270.1.2.2.1.2 a2.toNatClampNeg) v351 hc351) (va_cwS 3 hts (zg_S k_582 k_583 k_32 g_R_chosen) rfl rfl rfl hd_R_chosen ⟨Nat.le_of_ble_eq_true rfl, Nat.le_of_ble_eq_true rfl⟩) ⟨zro_b _, zro_p va_Pnil hK hN _⟩ rfl rfl hl.1 rfl (lv_room (Nat.le_of_ble_eq_true rfl)) d_R_mergeTrees_351 ⟨Nat.zero_le _, Nat.zero_le _⟩)) (fun r_351 er_351 => ?_)
                                                                    have er_351 := er_351.symm
                                                                    subst er_351
                                                                    refine va_iast hx hb hK hP hD hS 11 10 rfl rfl (show zin 65 67 by decide) d_R_mergeTrees_354 (fun H locs hP hD hS => ?_)
                                                                    have hP : va_P D vwCl ([(q 0, .inr (4, [.ref (q 1), .ref (q 2), .ref (q 3), .ref (q 4), .ref (q 5), .ref (q 6), .ref (q 7), .ref (q 8), .ref (q 9), .ref (q 10), .ref (q 11), .int v270.1.2.2.2, .ref (q 12), .ref (q 13), .ref (q 14), .ref (q 15), .ref (q 16), .ref (q 17), .int v270.2.2.1.1.1, .ref (q 18), .ref (q 19), .ref (q 20), .ref (q 21)])), (q 1, .inl (cR 1, 67, .inr (.inl v270.1.1.1.1.1))), (q 2, .inl (cR 2, 67, .inl v270.1.1.1.1.2)), (q 3, .inl (cR 3, 67, .inl v270.1.1.1.2)), (q 4, .inl (cR 4, 67, .inl v270.1.1.2.1.1)), (q 5, .inl (cR 5, 67, .inr (.inl v270.1.1.2.1.2))), (q 6, .inl (cR 6, 67, .inl v270.1.1.2.2)), (q 7, .inl (cR 7, 536, .inl v270.1.2.1.1.1)), (q 8, .inl (cR 8, 67, .inl v270.1.2.1.1.2)), (q 9, .inl (cR 9, 67, .inr (.inl v270.1.2.1.2))), (q 10, .inl (cR 10, 67, .inr (.inl (vp_updL v270.1.2.2.1.1 ((65 : Int32).toNatClampNeg) (((v270.1.2.2.1.1 a1.toNatClampNeg) + (v270.1.2.2.1.1 a2.toNatClampNeg)) - (v270.1.2.2.1.1 a0.toNatClampNeg)))))), (q 11, .inl (cR 11, 67, .inl (upd v270.1.2.2.1.2 ((65 : Int32).toNatClampNeg) v351))), (q 12, .inl (cR 12, 60, .inl v270.2.1.1.1.1)), (q 13, .inl (cR 13, 60, .inl v270.2.1.1.1.2)), (q 14, .inl (cR 14, 60, .inr (.inl v270.2.1.1.2))), (q 15, .inl (cR 15, 60, .inr (.inl v270.2.1.2.1.1))), (q 16, .inl (cR 16, 4, .inl v270.2.1.2.1.2)), (q 17, .inl (cR 17, 4, .inl v270.2.1.2.2)), (q 18, .inl (cR 18, 100, .inl v270.2.2.1.1.2)), (q 19, .inl (cR 19, 5, .inl v270.2.2.1.2)), (q 20, .inl (cR 20, 5, .inl v270.2.2.2.1)), (q 21, .inl (cR 21, 5, .inl v270.2.2.2.2))]) H := hP
                                                                    have hD : va_D A ([(q 0, .inr (4, [.ref (q 1), .ref (q 2), .ref (q 3), .ref (q 4), .ref (q 5), .ref (q 6), .ref (q 7), .ref (q 8), .ref (q 9), .ref (q 10), .ref (q 11), .int v270.1.2.2.2, .ref (q 12), .ref (q 13), .ref (q 14), .ref (q 15), .ref (q 16), .ref (q 17), .int v270.2.2.1.1.1, .ref (q 18), .ref (q 19), .ref (q 20), .ref (q 21)])), (q 1, .inl (cR 1, 67, .inr (.inl v270.1.1.1.1.1))), (q 2, .inl (cR 2, 67, .inl v270.1.1.1.1.2)), (q 3, .inl (cR 3, 67, .inl v270.1.1.1.2)), (q 4, .inl (cR 4, 67, .inl v270.1.1.2.1.1)), (q 5, .inl (cR 5, 67, .inr (.inl v270.1.1.2.1.2))), (q 6, .inl (cR 6, 67, .inl v270.1.1.2.2)), (q 7, .inl (cR 7, 536, .inl v270.1.2.1.1.1)), (q 8, .inl (cR 8, 67, .inl v270.1.2.1.1.2)), (q 9, .inl (cR 9, 67, .inr (.inl v270.1.2.1.2))), (q 10, .inl (cR 10, 67, .inr (.inl (vp_updL v270.1.2.2.1.1 ((65 : Int32).toNatClampNeg) (((v270.1.2.2.1.1 a1.toNatClampNeg) + (v270.1.2.2.1.1 a2.toNatClampNeg)) - (v270.1.2.2.1.1 a0.toNatClampNeg)))))), (q 11, .inl (cR 11, 67, .inl (upd v270.1.2.2.1.2 ((65 : Int32).toNatClampNeg) v351))), (q 12, .inl (cR 12, 60, .inl v270.2.1.1.1.1)), (q 13, .inl (cR 13, 60, .inl v270.2.1.1.1.2)), (q 14, .inl (cR 14, 60, .inr (.inl v270.2.1.1.2))), (q 15, .inl (cR 15, 60, .inr (.inl v270.2.1.2.1.1))), (q 16, .inl (cR 16, 4, .inl v270.2.1.2.1.2)), (q 17, .inl (cR 17, 4, .inl v270.2.1.2.2)), (q 18, .inl (cR 18, 100, .inl v270.2.2.1.1.2)), (q 19, .inl (cR 19, 5, .inl v270.2.2.1.2)), (q 20, .inl (cR 20, 5, .inl v270.2.2.2.1)), (q 21, .inl (cR 21, 5, .inl v270.2.2.2.2))]) := hD
                                                                    refine lv_iconst (v := 0) hx hb d_R_mergeTrees_355 (by decide) ?_
                                                                    obtain rfl := Option.some.inj hres
                                                                    exact W.iret (v := 0) hx hb hr (fun t ht hW => ⟨⟨_, (), rfl, rfl, by rw [ht]; exact hP, va_K.moved hW.alike hK, hD⟩, hS.F ht⟩) hS.2.2 d_R_mergeTrees_356
                                                                  · exact absurd (zi_n ck_350 hres) (by simp)
                                                                · exact absurd (zi_n ck_344 hres) (by simp)
                                                              · exact absurd (zi_n ck_338 hres) (by simp)
                                                            · exact absurd (zi_n ck_324 hres) (by simp)
                                                          · exact absurd (zi_n ck_317 hres) (by simp)
                                                        · exact absurd (zi_n ck_311 hres) (by simp)
                                                      · have hres := zi_n c_294 hres
                                                        refine lv_bipush (v := (-16)) hx hb d_R_mergeTrees_297 (by decide) ?_
                                                        obtain rfl := Option.some.inj hres
                                                        exact W.iret (v := (-16)) hx hb hr (fun t ht hW => ⟨⟨_, (), rfl, rfl, by rw [ht]; exact hP, va_K.moved hW.alike hK, hD⟩, hS.F ht⟩) hS.2.2 d_R_mergeTrees_299
                                                    · exact absurd (zi_n ck_290 hres) (by simp)
                                                  · exact absurd (zi_n ck_284 hres) (by simp)
                                                · exact absurd (zi_n ck_278 hres) (by simp)
                                              · have hres := zi_n c_260 hres
                                                refine lv_bipush (v := (-15)) hx hb d_R_mergeTrees_263 (by decide) ?_
                                                obtain rfl := Option.some.inj hres
                                                exact W.iret (v := (-15)) hx hb hr (fun t ht hW => ⟨⟨_, (), rfl, rfl, by rw [ht]; exact hP, va_K.moved hW.alike hK, hD⟩, hS.F ht⟩) hS.2.2 d_R_mergeTrees_265
                                            · have hres := zi_p c_247 hres
                                              refine lv_bipush (v := (-14)) hx hb d_R_mergeTrees_250 (by decide) ?_
                                              obtain rfl := Option.some.inj hres
                                              exact W.iret (v := (-14)) hx hb hr (fun t ht hW => ⟨⟨_, (), rfl, rfl, by rw [ht]; exact hP, va_K.moved hW.alike hK, hD⟩, hS.F ht⟩) hS.2.2 d_R_mergeTrees_252
                                          · exact absurd (zi_n ck_232 hres) (by simp)
                                        · exact absurd (zi_n ck_225 hres) (by simp)
                                      · exact absurd (zi_n ck_219 hres) (by simp)
                                    · exact absurd (zi_n ck_212 hres) (by simp)
                                  · exact absurd (zi_n ck_205 hres) (by simp)
                                · exact absurd (zi_n ck_199 hres) (by simp)
                              · exact absurd (zi_n ck_183 hres) (by simp)
                            · exact absurd (zi_n ck_177 hres) (by simp)
                          · exact absurd (zi_n ck_171 hres) (by simp)
                        · have hres := zi_n c_154 hres
                          refine lv_bipush (v := (-12)) hx hb d_R_mergeTrees_157 (by decide) ?_
                          obtain rfl := Option.some.inj hres
                          exact W.iret (v := (-12)) hx hb hr (fun t ht hW => ⟨⟨_, (), rfl, rfl, by rw [ht]; exact hP, va_K.moved hW.alike hK, hD⟩, hS.F ht⟩) hS.2.2 d_R_mergeTrees_159
                      · exact absurd (zi_n ck_150 hres) (by simp)
                    · exact absurd (zi_n ck_144 hres) (by simp)
                  · exact absurd (zi_n ck_138 hres) (by simp)
                refine lv_if_eq (tgt := 126) hx hb d_R_mergeTrees_114 (by decide) (fun c_114 => ?_) (fun c_114 => ?_)
                · have hres := zi_p c_114 hres
                  refine lv_aload_n hx hb d_R_mergeTrees_126 rfl (lv_at hl 1 rfl) ?_
                  refine va_get (D := D) (ci := 4) (v := .ref (q 3)) (C := R_R) (T := T_R) (N := 23) hx hb hts in_R hown hK hP (0) rfl rfl 2 (by decide) (hts _ k_430) (fun _ h9 => h9) rfl d_R_mergeTrees_127 ?_
                  refine lv_iload_n hx hb d_R_mergeTrees_130 rfl (lv_at hl 4 rfl) ?_
                  by_cases ck_131 : zin a2 67
                  · have hres := zi_p ck_131 hres
                    refine va_iald hx hb hK hP 3 2 rfl rfl ck_131 d_R_mergeTrees_131 ?_
                    exact hj132 (ρ.1.1.1.2 a2.toNatClampNeg) _ _ hP hD hS ls (lv_sub hl [0, 1, 2, 3, 4] rfl) hres
                  · exact absurd (zi_n ck_131 hres) (by simp)
                · have hres := zi_n c_114 hres
                  refine lv_aload_n hx hb d_R_mergeTrees_117 rfl (lv_at hl 1 rfl) ?_
                  refine va_get (D := D) (ci := 4) (v := .ref (q 3)) (C := R_R) (T := T_R) (N := 23) hx hb hts in_R hown hK hP (0) rfl rfl 2 (by decide) (hts _ k_430) (fun _ h9 => h9) rfl d_R_mergeTrees_118 ?_
                  refine lv_iload_n hx hb d_R_mergeTrees_121 rfl (lv_at hl 3 rfl) ?_
                  by_cases ck_122 : zin a1 67
                  · have hres := zi_p ck_122 hres
                    refine va_iald hx hb hK hP 3 2 rfl rfl ck_122 d_R_mergeTrees_122 ?_
                    refine lv_goto (tgt := 132) hx hb d_R_mergeTrees_123 (by decide) ?_
                    exact hj132 (ρ.1.1.1.2 a1.toNatClampNeg) _ _ hP hD hS ls (lv_sub hl [0, 1, 2, 3, 4] rfl) hres
                  · exact absurd (zi_n ck_122 hres) (by simp)
              refine lv_if_eq (tgt := 99) hx hb d_R_mergeTrees_87 (by decide) (fun c_87 => ?_) (fun c_87 => ?_)
              · have hres := zi_p c_87 hres
                refine lv_aload_n hx hb d_R_mergeTrees_99 rfl (lv_at hl 1 rfl) ?_
                refine va_get (D := D) (ci := 4) (v := .ref (q 2)) (C := R_R) (T := T_R) (N := 23) hx hb hts in_R hown hK hP (0) rfl rfl 1 (by decide) (hts _ k_429) (fun _ h9 => h9) rfl d_R_mergeTrees_100 ?_
                refine lv_iload_n hx hb d_R_mergeTrees_103 rfl (lv_at hl 4 rfl) ?_
                by_cases ck_104 : zin a2 67
                · have hres := zi_p ck_104 hres
                  refine va_iald hx hb hK hP 2 1 rfl rfl ck_104 d_R_mergeTrees_104 ?_
                  exact hj105 (ρ.1.1.1.1.2 a2.toNatClampNeg) _ _ hP hD hS ls (lv_sub hl [0, 1, 2, 3, 4] rfl) hres
                · exact absurd (zi_n ck_104 hres) (by simp)
              · have hres := zi_n c_87 hres
                refine lv_aload_n hx hb d_R_mergeTrees_90 rfl (lv_at hl 1 rfl) ?_
                refine va_get (D := D) (ci := 4) (v := .ref (q 2)) (C := R_R) (T := T_R) (N := 23) hx hb hts in_R hown hK hP (0) rfl rfl 1 (by decide) (hts _ k_429) (fun _ h9 => h9) rfl d_R_mergeTrees_91 ?_
                refine lv_iload_n hx hb d_R_mergeTrees_94 rfl (lv_at hl 3 rfl) ?_
                by_cases ck_95 : zin a1 67
                · have hres := zi_p ck_95 hres
                  refine va_iald hx hb hK hP 2 1 rfl rfl ck_95 d_R_mergeTrees_95 ?_
                  refine lv_goto (tgt := 105) hx hb d_R_mergeTrees_96 (by decide) ?_
                  exact hj105 (ρ.1.1.1.1.2 a1.toNatClampNeg) _ _ hP hD hS ls (lv_sub hl [0, 1, 2, 3, 4] rfl) hres
                · exact absurd (zi_n ck_95 hres) (by simp)
            · exact absurd (zi_n ck_76 hres) (by simp)
          · exact absurd (zi_n ck_69 hres) (by simp)
        · exact absurd (zi_n ck_63 hres) (by simp)
      refine lv_icmp_gt (tgt := 45) hx hb d_R_mergeTrees_12 (by decide) (fun c_12 => ?_) (fun c_12 => ?_)
      · have hres := zi_p c_12 hres
        refine lv_iconst (v := 1) hx hb d_R_mergeTrees_45 (by decide) ?_
        refine lv_goto (tgt := 50) hx hb d_R_mergeTrees_46 (by decide) ?_
        exact hj50 1 _ _ hP hD hS ls (lv_sub hl [0, 1, 2, 3] rfl) hres
      · have hres := zi_n c_12 hres
        refine lv_aload_n hx hb d_R_mergeTrees_15 rfl (lv_at hl 0 rfl) ?_
        refine va_get (D := D) (ci := 4) (v := .ref (q 3)) (C := R_R) (T := T_R) (N := 23) hx hb hts in_R hown hK hP (0) rfl rfl 2 (by decide) (hts _ k_430) (fun _ h9 => h9) rfl d_R_mergeTrees_16 ?_
        refine lv_iload_n hx hb d_R_mergeTrees_19 rfl (lv_at hl 2 rfl) ?_
        by_cases ck_20 : zin a1 67
        · have hres := zi_p ck_20 hres
          refine va_iald hx hb hK hP 3 2 rfl rfl ck_20 d_R_mergeTrees_20 ?_
          refine lv_aload_n hx hb d_R_mergeTrees_21 rfl (lv_at hl 0 rfl) ?_
          refine va_get (D := D) (ci := 4) (v := .ref (q 3)) (C := R_R) (T := T_R) (N := 23) hx hb hts in_R hown hK hP (0) rfl rfl 2 (by decide) (hts _ k_430) (fun _ h9 => h9) rfl d_R_mergeTrees_22 ?_
          refine lv_iload_n hx hb d_R_mergeTrees_25 rfl (lv_at hl 3 rfl) ?_
          by_cases ck_26 : zin a2 67
          · have hres := zi_p ck_26 hres
            refine va_iald hx hb hK hP 3 2 rfl rfl ck_26 d_R_mergeTrees_26 ?_
            refine lv_icmp_ne (tgt := 49) hx hb d_R_mergeTrees_27 (by decide) (fun c_27 => ?_) (fun c_27 => ?_)
            · have hres := zi_n c_27 hres
              refine lv_iconst (v := 0) hx hb d_R_mergeTrees_49 (by decide) ?_
              exact hj50 0 _ _ hP hD hS ls (lv_sub hl [0, 1, 2, 3] rfl) hres
            · have hres := zi_p c_27 hres
              refine lv_aload_n hx hb d_R_mergeTrees_30 rfl (lv_at hl 0 rfl) ?_
              refine va_get (D := D) (ci := 4) (v := .ref (q 2)) (C := R_R) (T := T_R) (N := 23) hx hb hts in_R hown hK hP (0) rfl rfl 1 (by decide) (hts _ k_429) (fun _ h9 => h9) rfl d_R_mergeTrees_31 ?_
              refine lv_iload_n hx hb d_R_mergeTrees_34 rfl (lv_at hl 2 rfl) ?_
              by_cases ck_35 : zin a1 67
              · have hres := zi_p ck_35 hres
                refine va_iald hx hb hK hP 2 1 rfl rfl ck_35 d_R_mergeTrees_35 ?_
                refine lv_aload_n hx hb d_R_mergeTrees_36 rfl (lv_at hl 0 rfl) ?_
                refine va_get (D := D) (ci := 4) (v := .ref (q 2)) (C := R_R) (T := T_R) (N := 23) hx hb hts in_R hown hK hP (0) rfl rfl 1 (by decide) (hts _ k_429) (fun _ h9 => h9) rfl d_R_mergeTrees_37 ?_
                refine lv_iload_n hx hb d_R_mergeTrees_40 rfl (lv_at hl 3 rfl) ?_
                by_cases ck_41 : zin a2 67
                · have hres := zi_p ck_41 hres
                  refine va_iald hx hb hK hP 2 1 rfl rfl ck_41 d_R_mergeTrees_41 ?_
                  refine lv_icmp_lt (tgt := 49) hx hb d_R_mergeTrees_42 (by decide) (fun c_42 => ?_) (fun c_42 => ?_)
                  · have hres := zi_p c_42 hres
                    refine lv_iconst (v := 0) hx hb d_R_mergeTrees_49 (by decide) ?_
                    exact hj50 0 _ _ hP hD hS ls (lv_sub hl [0, 1, 2, 3] rfl) hres
                  · have hres := zi_n c_42 hres
                    refine lv_iconst (v := 1) hx hb d_R_mergeTrees_45 (by decide) ?_
                    refine lv_goto (tgt := 50) hx hb d_R_mergeTrees_46 (by decide) ?_
                    exact hj50 1 _ _ hP hD hS ls (lv_sub hl [0, 1, 2, 3] rfl) hres
                · exact absurd (zi_n ck_41 hres) (by simp)
              · exact absurd (zi_n ck_35 hres) (by simp)
          · exact absurd (zi_n ck_26 hres) (by simp)
        · exact absurd (zi_n ck_20 hres) (by simp)
    · exact absurd (zi_n ck_11 hres) (by simp)
  · exact absurd (zi_n ck_5 hres) (by simp)

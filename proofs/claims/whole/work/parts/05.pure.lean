def f_V_isIn (x : Int64) (k : Int32) : Option (Int32) :=
  if (lg_cmp ((zu_l x k) &&& 1) 1) = 0 then
    some 1
  else
    some 0
set_option maxHeartbeats 4000000 in
set_option maxRecDepth 100000 in
theorem c_V_isIn (l : Launch) (D : va_G) (tys : List (ClassId × FieldType)) (x : Int64) (k : Int32) (v : Int32) (hres : f_V_isIn x k = some v) : Met l y_V_isIn w_V_isIn ({ frames := 0, cells := 0, slots := 0, locals := 0 } : Room) (va_Pc ([.long x, .int k]) (zro D tys ([]))) (vp_Si (fun r : Int32 => r = v)) 0 0 (fun _ => False) := by
  refine Met.ofW (cc := b_V_isIn) (maxL := 3) (ret := (some .boolean)) (by decide) rfl ?_
  intro p e s m args below meth c s₁ B hml hv
  obtain ⟨rfl, hP, hK, hN⟩ := hv
  have hx := B.exec
  have hb := B.bytes
  have hr := B.returns
  have hts : ∀ w ∈ zt, w.before ([.long x, .int k].toArray) s = true := fun w h => atoms_spec (ws := w_V_isIn) B.pre w (List.mem_cons_of_mem _ h)
  have hown : s.vm.findClass R_V = some m.cls := findClass_of_methodNamed B.named
  have hlocks := B.notSynchronized
  have hl := lv_entry ([.long x, .int k]) (n := 3) (Nat.le_of_ble_eq_true rfl)
  rw [lg_entry_eq]
  generalize (lg_sl ([.long x, .int k]) ++ List.replicate (3 - (lg_sl ([.long x, .int k])).length) Slot.unset).toArray = ls at hl ⊢
  have hl : lv_has ls 3 [(0, .long x), (2, .int k)] := hl
  unfold f_V_isIn at hres
  refine lv_lload_n hx hb d_V_isIn_0 rfl (lv_at hl 0 rfl) ?_
  refine lv_iload_n hx hb d_V_isIn_1 rfl (lv_at hl 1 rfl) ?_
  refine lv_lushr (v := (zu_l x k)) hx hb d_V_isIn_2 rfl ?_
  refine lv_lconst (v := 1) hx hb d_V_isIn_3 (by decide) ?_
  refine lv_land hx hb d_V_isIn_4 ?_
  refine lv_lconst (v := 1) hx hb d_V_isIn_5 (by decide) ?_
  refine W.lcmp hx hb d_V_isIn_6 ?_
  refine lv_if_ne (tgt := 14) hx hb d_V_isIn_7 (by decide) (fun c_7 => ?_) (fun c_7 => ?_)
  · have hres := zi_n c_7 hres
    refine lv_iconst (v := 0) hx hb d_V_isIn_14 (by decide) ?_
    obtain rfl := Option.some.inj hres
    exact W.zret (v := 0) (ty := .boolean) hx hb hr rfl (fun t ht hW => ⟨_, rfl, rfl, ht⟩) (fun _ hq => by cases hq) d_V_isIn_15
  · have hres := zi_p c_7 hres
    refine lv_iconst (v := 1) hx hb d_V_isIn_10 (by decide) ?_
    refine lv_goto (tgt := 15) hx hb d_V_isIn_11 (by decide) ?_
    obtain rfl := Option.some.inj hres
    exact W.zret (v := 1) (ty := .boolean) hx hb hr rfl (fun t ht hW => ⟨_, rfl, rfl, ht⟩) (fun _ hq => by cases hq) d_V_isIn_15
def L_V_nextIn_2 (x : Int64) : Nat → Int32 → Option (Int32 ⊕ Int32)
  | 0, _ => none
  | n + 1, x2_3 =>
    if 60 ≤ x2_3 then
      some (Sum.inr x2_3)
    else
      Option.bind (f_V_isIn x x2_3) (fun v10 =>
        if v10 = 0 then
          L_V_nextIn_2 x n (x2_3 + 1)
        else
          some (Sum.inl x2_3))
def f_V_nextIn (x : Int64) (k : Int32) : Option (Int32) :=
  Option.bind (L_V_nextIn_2 x zfuel k) (fun w2 =>
    zs_m w2 (fun r => some r) (fun u2 =>
      some (-1)))
set_option maxHeartbeats 4000000 in
set_option maxRecDepth 100000 in
theorem c_V_nextIn (l : Launch) (D : va_G) (tys : List (ClassId × FieldType)) (x : Int64) (k : Int32) (v : Int32) (hres : f_V_nextIn x k = some v) : Met l y_V_nextIn w_V_nextIn ({ frames := 1, cells := 0, slots := 0, locals := 22 } : Room) (va_Pc ([.long x, .int k]) (zro D tys ([]))) (vp_Si (fun r : Int32 => r = v)) 0 0 (fun _ => False) := by
  refine Met.ofW (cc := b_V_nextIn) (maxL := 4) (ret := (some .int)) (by decide) rfl ?_
  intro p e s m args below meth c s₁ B hml hv
  obtain ⟨rfl, hP, hK, hN⟩ := hv
  have hx := B.exec
  have hb := B.bytes
  have hr := B.returns
  have hts : ∀ w ∈ zt, w.before ([.long x, .int k].toArray) s = true := fun w h => atoms_spec (ws := w_V_nextIn) B.pre w (List.mem_cons_of_mem _ h)
  have hown : s.vm.findClass R_V = some m.cls := findClass_of_methodNamed B.named
  have hlocks := B.notSynchronized
  have hl := lv_entry ([.long x, .int k]) (n := 4) (Nat.le_of_ble_eq_true rfl)
  rw [lg_entry_eq]
  generalize (lg_sl ([.long x, .int k]) ++ List.replicate (4 - (lg_sl ([.long x, .int k])).length) Slot.unset).toArray = ls at hl ⊢
  have hl : lv_has ls 4 [(0, .long x), (2, .int k)] := hl
  unfold f_V_nextIn at hres
  refine lv_iload_n hx hb d_V_nextIn_0 rfl (lv_at hl 1 rfl) ?_
  refine lv_istore_n (lv' := [(3, .int k), (0, .long x), (2, .int k)]) hx hb d_V_nextIn_1 rfl hl (by decide) rfl (fun ls hl => ?_)
  obtain ⟨w2, hL2, hres⟩ := zo_b hres
  have hk2 : ∀ (u2 : Int32), w2 = Sum.inr u2 → ∀ (ls : Array Slot), lv_has ls 4 [(3, .int u2), (0, .long x), (2, .int k)] → W p l e (headSpec w_V_nextIn ({ frames := 1, cells := 0, slots := 0, locals := 22 } : Room)).room s m ([.long x, .int k].toArray) below meth c s.heap [] 0 0 (MQ below (vp_Si (fun r : Int32 => r = v)) ([.long x, .int k].toArray) s 0 0 (fun _ => False)) (F0 m 24 ls []) := by
    intro u2 hu2 ls hl
    subst hu2
    have hres := zs_r hres
    refine lv_iconst (v := (-1)) hx hb d_V_nextIn_24 (by decide) ?_
    obtain rfl := Option.some.inj hres
    exact W.iret (v := (-1)) hx hb hr (fun t ht hW => ⟨_, rfl, rfl, ht⟩) (fun _ hq => by cases hq) d_V_nextIn_25
  have hloop2 : ∀ (n : Nat) (x2_3 : Int32) (ls : Array Slot), lv_has ls 4 [(3, .int x2_3), (0, .long x), (2, .int k)] → L_V_nextIn_2 x n x2_3 = some w2 → W p l e (headSpec w_V_nextIn ({ frames := 1, cells := 0, slots := 0, locals := 22 } : Room)).room s m ([.long x, .int k].toArray) below meth c s.heap [] 0 0 (MQ below (vp_Si (fun r : Int32 => r = v)) ([.long x, .int k].toArray) s 0 0 (fun _ => False)) (F0 m 2 ls []) := by
    intro n
    induction n with
    | zero => intro x2_3 ls hl hL2; cases hL2
    | succ n ih =>
      intro x2_3 ls hl hL2
      rw [L_V_nextIn_2] at hL2
      refine lv_iload_n hx hb d_V_nextIn_2 rfl (lv_at hl 0 rfl) ?_
      refine lv_bipush (v := 60) hx hb d_V_nextIn_3 (by decide) ?_
      refine lv_icmp_ge (tgt := 24) hx hb d_V_nextIn_5 (by decide) (fun c_5 => ?_) (fun c_5 => ?_)
      · have hL2 := zi_p c_5 hL2
        obtain rfl := Option.some.inj hL2
        exact hk2 _ rfl ls (lv_sub hl [0, 1, 2] rfl)
      · have hL2 := zi_n c_5 hL2
        refine lv_lload_n hx hb d_V_nextIn_8 rfl (lv_at hl 1 rfl) ?_
        refine lv_iload_n hx hb d_V_nextIn_9 rfl (lv_at hl 0 rfl) ?_
        obtain ⟨v10, hc10, hL2⟩ := zo_b hL2
        refine vp_callSi (va_Run.run (va_runS (As := [.long x, .int x2_3]) (rest := []) ⟨hx, hb, hml, hown, hts⟩ (c_V_isIn l D tys x x2_3 v10 hc10) (va_cwS 2 hts (zg_S k_312 k_196 k_29 g_V_isIn) rfl rfl rfl hd_V_isIn ⟨Nat.le_of_ble_eq_true rfl, Nat.le_of_ble_eq_true rfl⟩) ⟨zro_b _, zro_p va_Pnil hK hN _⟩ rfl rfl hl.1 rfl (lv_room (Nat.le_of_ble_eq_true rfl)) d_V_nextIn_10 ⟨Nat.zero_le _, Nat.zero_le _⟩)) (fun r_10 er_10 => ?_)
        have er_10 := er_10.symm
        subst er_10
        refine lv_if_eq (tgt := 18) hx hb d_V_nextIn_13 (by decide) (fun c_13 => ?_) (fun c_13 => ?_)
        · have hL2 := zi_p c_13 hL2
          refine lv_iinc (v := (x2_3 + 1)) (lv' := [(3, .int (x2_3 + 1)), (0, .long x), (2, .int k)]) hx hb d_V_nextIn_18 hl (k := 0) rfl rfl (by decide) rfl (fun ls hl => ?_)
          refine lv_goto (tgt := 2) hx hb d_V_nextIn_21 (by decide) ?_
          exact ih (x2_3 + 1) ls (lv_sub hl [0, 1, 2] rfl) hL2
        · have hL2 := zi_n c_13 hL2
          refine lv_iload_n hx hb d_V_nextIn_16 rfl (lv_at hl 0 rfl) ?_
          obtain rfl := Option.some.inj hL2
          obtain rfl := Option.some.inj hres
          exact W.iret (v := x2_3) hx hb hr (fun t ht hW => ⟨_, rfl, rfl, ht⟩) (fun _ hq => by cases hq) d_V_nextIn_17
  exact hloop2 zfuel k ls (lv_sub hl [0, 1, 2] rfl) hL2
def f_V_isBranch (k : Int32) : Option (Int32) :=
  if k < 0 then
    some 0
  else
    if 4 ≤ k then
      some 0
    else
      some 1
set_option maxHeartbeats 4000000 in
set_option maxRecDepth 100000 in
theorem c_V_isBranch (l : Launch) (D : va_G) (tys : List (ClassId × FieldType)) (k : Int32) (v : Int32) (hres : f_V_isBranch k = some v) : Met l y_V_isBranch w_V_isBranch ({ frames := 0, cells := 0, slots := 0, locals := 0 } : Room) (va_Pc ([.int k]) (zro D tys ([]))) (vp_Si (fun r : Int32 => r = v)) 0 0 (fun _ => False) := by
  refine Met.ofW (cc := b_V_isBranch) (maxL := 1) (ret := (some .boolean)) (by decide) rfl ?_
  intro p e s m args below meth c s₁ B hml hv
  obtain ⟨rfl, hP, hK, hN⟩ := hv
  have hx := B.exec
  have hb := B.bytes
  have hr := B.returns
  have hts : ∀ w ∈ zt, w.before ([.int k].toArray) s = true := fun w h => atoms_spec (ws := w_V_isBranch) B.pre w (List.mem_cons_of_mem _ h)
  have hown : s.vm.findClass R_V = some m.cls := findClass_of_methodNamed B.named
  have hlocks := B.notSynchronized
  have hl := lv_entry ([.int k]) (n := 1) (Nat.le_of_ble_eq_true rfl)
  rw [lg_entry_eq]
  generalize (lg_sl ([.int k]) ++ List.replicate (1 - (lg_sl ([.int k])).length) Slot.unset).toArray = ls at hl ⊢
  have hl : lv_has ls 1 [(0, .int k)] := hl
  unfold f_V_isBranch at hres
  refine lv_iload_n hx hb d_V_isBranch_0 rfl (lv_at hl 0 rfl) ?_
  refine lv_if_lt (tgt := 13) hx hb d_V_isBranch_1 (by decide) (fun c_1 => ?_) (fun c_1 => ?_)
  · have hres := zi_p c_1 hres
    refine lv_iconst (v := 0) hx hb d_V_isBranch_13 (by decide) ?_
    obtain rfl := Option.some.inj hres
    exact W.zret (v := 0) (ty := .boolean) hx hb hr rfl (fun t ht hW => ⟨_, rfl, rfl, ht⟩) (fun _ hq => by cases hq) d_V_isBranch_14
  · have hres := zi_n c_1 hres
    refine lv_iload_n hx hb d_V_isBranch_4 rfl (lv_at hl 0 rfl) ?_
    refine lv_iconst (v := 4) hx hb d_V_isBranch_5 (by decide) ?_
    refine lv_icmp_ge (tgt := 13) hx hb d_V_isBranch_6 (by decide) (fun c_6 => ?_) (fun c_6 => ?_)
    · have hres := zi_p c_6 hres
      refine lv_iconst (v := 0) hx hb d_V_isBranch_13 (by decide) ?_
      obtain rfl := Option.some.inj hres
      exact W.zret (v := 0) (ty := .boolean) hx hb hr rfl (fun t ht hW => ⟨_, rfl, rfl, ht⟩) (fun _ hq => by cases hq) d_V_isBranch_14
    · have hres := zi_n c_6 hres
      refine lv_iconst (v := 1) hx hb d_V_isBranch_9 (by decide) ?_
      refine lv_goto (tgt := 14) hx hb d_V_isBranch_10 (by decide) ?_
      obtain rfl := Option.some.inj hres
      exact W.zret (v := 1) (ty := .boolean) hx hb hr rfl (fun t ht hW => ⟨_, rfl, rfl, ht⟩) (fun _ hq => by cases hq) d_V_isBranch_14
def f_Q_elementAt (x : Int64) (k : Int32) : Option (Int32) :=
  some (((zu_l x (5 * k)) &&& 31).toInt32 - 1)
set_option maxHeartbeats 4000000 in
set_option maxRecDepth 100000 in
theorem c_Q_elementAt (l : Launch) (D : va_G) (tys : List (ClassId × FieldType)) (x : Int64) (k : Int32) (v : Int32) (hres : f_Q_elementAt x k = some v) : Met l y_Q_elementAt w_Q_elementAt ({ frames := 0, cells := 0, slots := 0, locals := 0 } : Room) (va_Pc ([.long x, .int k]) (zro D tys ([]))) (vp_Si (fun r : Int32 => r = v)) 0 0 (fun _ => False) := by
  refine Met.ofW (cc := b_Q_elementAt) (maxL := 3) (ret := (some .int)) (by decide) rfl ?_
  intro p e s m args below meth c s₁ B hml hv
  obtain ⟨rfl, hP, hK, hN⟩ := hv
  have hx := B.exec
  have hb := B.bytes
  have hr := B.returns
  have hts : ∀ w ∈ zt, w.before ([.long x, .int k].toArray) s = true := fun w h => atoms_spec (ws := w_Q_elementAt) B.pre w (List.mem_cons_of_mem _ h)
  have hown : s.vm.findClass R_Q = some m.cls := findClass_of_methodNamed B.named
  have hlocks := B.notSynchronized
  have hl := lv_entry ([.long x, .int k]) (n := 3) (Nat.le_of_ble_eq_true rfl)
  rw [lg_entry_eq]
  generalize (lg_sl ([.long x, .int k]) ++ List.replicate (3 - (lg_sl ([.long x, .int k])).length) Slot.unset).toArray = ls at hl ⊢
  have hl : lv_has ls 3 [(0, .long x), (2, .int k)] := hl
  unfold f_Q_elementAt at hres
  refine lv_lload_n hx hb d_Q_elementAt_0 rfl (lv_at hl 0 rfl) ?_
  refine lv_iconst (v := 5) hx hb d_Q_elementAt_1 (by decide) ?_
  refine lv_iload_n hx hb d_Q_elementAt_2 rfl (lv_at hl 1 rfl) ?_
  refine lv_imul hx hb d_Q_elementAt_3 ?_
  refine lv_lushr (v := (zu_l x (5 * k))) hx hb d_Q_elementAt_4 rfl ?_
  refine lv_ldc2 (v := 31) hx hb hown (hts _ k_204) d_Q_elementAt_5 ?_
  refine lv_land hx hb d_Q_elementAt_8 ?_
  refine lv_l2i (v := ((zu_l x (5 * k)) &&& 31).toInt32) hx hb d_Q_elementAt_9 rfl ?_
  refine lv_iconst (v := 1) hx hb d_Q_elementAt_10 (by decide) ?_
  refine lv_isub hx hb d_Q_elementAt_11 ?_
  obtain rfl := Option.some.inj hres
  exact W.iret (v := (((zu_l x (5 * k)) &&& 31).toInt32 - 1)) hx hb hr (fun t ht hW => ⟨_, rfl, rfl, ht⟩) (fun _ hq => by cases hq) d_Q_elementAt_12
def L_Q_length_2 (x : Int64) : Nat → Int32 → Option (Int32)
  | 0, _ => none
  | n + 1, x2_2 =>
    if 8 ≤ x2_2 then
      some x2_2
    else
      Option.bind (f_Q_elementAt x x2_2) (fun v10 =>
        if v10 = (-1) then
          some x2_2
        else
          L_Q_length_2 x n (x2_2 + 1))
def f_Q_length (x : Int64) : Option (Int32) :=
  Option.bind (L_Q_length_2 x zfuel 0) (fun w2 =>
    some w2)
set_option maxHeartbeats 4000000 in
set_option maxRecDepth 100000 in
theorem c_Q_length (l : Launch) (D : va_G) (tys : List (ClassId × FieldType)) (x : Int64) (v : Int32) (hres : f_Q_length x = some v) : Met l y_Q_length w_Q_length ({ frames := 1, cells := 0, slots := 0, locals := 22 } : Room) (va_Pc ([.long x]) (zro D tys ([]))) (vp_Si (fun r : Int32 => r = v)) 0 0 (fun _ => False) := by
  refine Met.ofW (cc := b_Q_length) (maxL := 3) (ret := (some .int)) (by decide) rfl ?_
  intro p e s m args below meth c s₁ B hml hv
  obtain ⟨rfl, hP, hK, hN⟩ := hv
  have hx := B.exec
  have hb := B.bytes
  have hr := B.returns
  have hts : ∀ w ∈ zt, w.before ([.long x].toArray) s = true := fun w h => atoms_spec (ws := w_Q_length) B.pre w (List.mem_cons_of_mem _ h)
  have hown : s.vm.findClass R_Q = some m.cls := findClass_of_methodNamed B.named
  have hlocks := B.notSynchronized
  have hl := lv_entry ([.long x]) (n := 3) (Nat.le_of_ble_eq_true rfl)
  rw [lg_entry_eq]
  generalize (lg_sl ([.long x]) ++ List.replicate (3 - (lg_sl ([.long x])).length) Slot.unset).toArray = ls at hl ⊢
  have hl : lv_has ls 3 [(0, .long x)] := hl
  unfold f_Q_length at hres
  refine lv_iconst (v := 0) hx hb d_Q_length_0 (by decide) ?_
  refine lv_istore_n (lv' := [(2, .int 0), (0, .long x)]) hx hb d_Q_length_1 rfl hl (by decide) rfl (fun ls hl => ?_)
  obtain ⟨w2, hL2, hres⟩ := zo_b hres
  have hk2 : ∀ (ls : Array Slot), lv_has ls 3 [(2, .int w2), (0, .long x)] → W p l e (headSpec w_Q_length ({ frames := 1, cells := 0, slots := 0, locals := 22 } : Room)).room s m ([.long x].toArray) below meth c s.heap [] 0 0 (MQ below (vp_Si (fun r : Int32 => r = v)) ([.long x].toArray) s 0 0 (fun _ => False)) (F0 m 23 ls []) := by
    intro ls hl
    refine lv_iload_n hx hb d_Q_length_23 rfl (lv_at hl 0 rfl) ?_
    obtain rfl := Option.some.inj hres
    exact W.iret (v := w2) hx hb hr (fun t ht hW => ⟨_, rfl, rfl, ht⟩) (fun _ hq => by cases hq) d_Q_length_24
  have hloop2 : ∀ (n : Nat) (x2_2 : Int32) (ls : Array Slot), lv_has ls 3 [(2, .int x2_2), (0, .long x)] → L_Q_length_2 x n x2_2 = some w2 → W p l e (headSpec w_Q_length ({ frames := 1, cells := 0, slots := 0, locals := 22 } : Room)).room s m ([.long x].toArray) below meth c s.heap [] 0 0 (MQ below (vp_Si (fun r : Int32 => r = v)) ([.long x].toArray) s 0 0 (fun _ => False)) (F0 m 2 ls []) := by
    intro n
    induction n with
    | zero => intro x2_2 ls hl hL2; cases hL2
    | succ n ih =>
      intro x2_2 ls hl hL2
      rw [L_Q_length_2] at hL2
      refine lv_iload_n hx hb d_Q_length_2 rfl (lv_at hl 0 rfl) ?_
      refine lv_bipush (v := 8) hx hb d_Q_length_3 (by decide) ?_
      refine lv_icmp_ge (tgt := 23) hx hb d_Q_length_5 (by decide) (fun c_5 => ?_) (fun c_5 => ?_)
      · have hL2 := zi_p c_5 hL2
        obtain rfl := Option.some.inj hL2
        exact hk2 ls (lv_sub hl [0, 1] rfl)
      · have hL2 := zi_n c_5 hL2
        refine lv_lload_n hx hb d_Q_length_8 rfl (lv_at hl 1 rfl) ?_
        refine lv_iload_n hx hb d_Q_length_9 rfl (lv_at hl 0 rfl) ?_
        obtain ⟨v10, hc10, hL2⟩ := zo_b hL2
        refine vp_callSi (va_Run.run (va_runS (As := [.long x, .int x2_2]) (rest := []) ⟨hx, hb, hml, hown, hts⟩ (c_Q_elementAt l D tys x x2_2 v10 hc10) (va_cwS 2 hts (zg_S k_201 k_202 k_34 g_Q_elementAt) rfl rfl rfl hd_Q_elementAt ⟨Nat.le_of_ble_eq_true rfl, Nat.le_of_ble_eq_true rfl⟩) ⟨zro_b _, zro_p va_Pnil hK hN _⟩ rfl rfl hl.1 rfl (lv_room (Nat.le_of_ble_eq_true rfl)) d_Q_length_10 ⟨Nat.zero_le _, Nat.zero_le _⟩)) (fun r_10 er_10 => ?_)
        have er_10 := er_10.symm
        subst er_10
        refine lv_iconst (v := (-1)) hx hb d_Q_length_13 (by decide) ?_
        refine lv_icmp_eq (tgt := 23) hx hb d_Q_length_14 (by decide) (fun c_14 => ?_) (fun c_14 => ?_)
        · have hL2 := zi_p c_14 hL2
          obtain rfl := Option.some.inj hL2
          exact hk2 ls (lv_sub hl [0, 1] rfl)
        · have hL2 := zi_n c_14 hL2
          refine lv_iinc (v := (x2_2 + 1)) (lv' := [(2, .int (x2_2 + 1)), (0, .long x)]) hx hb d_Q_length_17 hl (k := 0) rfl rfl (by decide) rfl (fun ls hl => ?_)
          refine lv_goto (tgt := 2) hx hb d_Q_length_20 (by decide) ?_
          exact ih (x2_2 + 1) ls (lv_sub hl [0, 1] rfl) hL2
  exact hloop2 zfuel 0 ls (lv_sub hl [0, 1] rfl) hL2
def L_Q_members_4 (x : Int64) : Nat → Int32 → Int32 → Option (Int32 × Int32)
  | 0, _, _ => none
  | n + 1, x4_3, x4_2 =>
    if 8 ≤ x4_3 then
      some (x4_3, x4_2)
    else
      Option.bind (f_Q_elementAt x x4_3) (fun v12 =>
        if v12 = (-1) then
          some (x4_3, x4_2)
        else
          L_Q_members_4 x n (x4_3 + 1) (x4_2 ||| (1 <<< (v12 &&& 31))))
def f_Q_members (x : Int64) : Option (Int32) :=
  Option.bind (L_Q_members_4 x zfuel 0 0) (fun w4 =>
    some w4.2)
set_option maxHeartbeats 4000000 in
set_option maxRecDepth 100000 in
theorem c_Q_members (l : Launch) (D : va_G) (tys : List (ClassId × FieldType)) (x : Int64) (v : Int32) (hres : f_Q_members x = some v) : Met l y_Q_members w_Q_members ({ frames := 1, cells := 0, slots := 0, locals := 22 } : Room) (va_Pc ([.long x]) (zro D tys ([]))) (vp_Si (fun r : Int32 => r = v)) 0 0 (fun _ => False) := by
  refine Met.ofW (cc := b_Q_members) (maxL := 5) (ret := (some .int)) (by decide) rfl ?_
  intro p e s m args below meth c s₁ B hml hv
  obtain ⟨rfl, hP, hK, hN⟩ := hv
  have hx := B.exec
  have hb := B.bytes
  have hr := B.returns
  have hts : ∀ w ∈ zt, w.before ([.long x].toArray) s = true := fun w h => atoms_spec (ws := w_Q_members) B.pre w (List.mem_cons_of_mem _ h)
  have hown : s.vm.findClass R_Q = some m.cls := findClass_of_methodNamed B.named
  have hlocks := B.notSynchronized
  have hl := lv_entry ([.long x]) (n := 5) (Nat.le_of_ble_eq_true rfl)
  rw [lg_entry_eq]
  generalize (lg_sl ([.long x]) ++ List.replicate (5 - (lg_sl ([.long x])).length) Slot.unset).toArray = ls at hl ⊢
  have hl : lv_has ls 5 [(0, .long x)] := hl
  unfold f_Q_members at hres
  refine lv_iconst (v := 0) hx hb d_Q_members_0 (by decide) ?_
  refine lv_istore_n (lv' := [(2, .int 0), (0, .long x)]) hx hb d_Q_members_1 rfl hl (by decide) rfl (fun ls hl => ?_)
  refine lv_iconst (v := 0) hx hb d_Q_members_2 (by decide) ?_
  refine lv_istore_n (lv' := [(3, .int 0), (2, .int 0), (0, .long x)]) hx hb d_Q_members_3 rfl hl (by decide) rfl (fun ls hl => ?_)
  obtain ⟨w4, hL4, hres⟩ := zo_b hres
  have hk4 : ∀ (ls : Array Slot), lv_has ls 5 [(3, .int w4.1), (2, .int w4.2), (0, .long x)] → W p l e (headSpec w_Q_members ({ frames := 1, cells := 0, slots := 0, locals := 22 } : Room)).room s m ([.long x].toArray) below meth c s.heap [] 0 0 (MQ below (vp_Si (fun r : Int32 => r = v)) ([.long x].toArray) s 0 0 (fun _ => False)) (F0 m 39 ls []) := by
    intro ls hl
    refine lv_iload_n hx hb d_Q_members_39 rfl (lv_at hl 1 rfl) ?_
    obtain rfl := Option.some.inj hres
    exact W.iret (v := w4.2) hx hb hr (fun t ht hW => ⟨_, rfl, rfl, ht⟩) (fun _ hq => by cases hq) d_Q_members_40
  have hloop4 : ∀ (n : Nat) (x4_3 : Int32) (x4_2 : Int32) (ls : Array Slot), lv_has ls 5 [(3, .int x4_3), (2, .int x4_2), (0, .long x)] → L_Q_members_4 x n x4_3 x4_2 = some w4 → W p l e (headSpec w_Q_members ({ frames := 1, cells := 0, slots := 0, locals := 22 } : Room)).room s m ([.long x].toArray) below meth c s.heap [] 0 0 (MQ below (vp_Si (fun r : Int32 => r = v)) ([.long x].toArray) s 0 0 (fun _ => False)) (F0 m 4 ls []) := by
    intro n
    induction n with
    | zero => intro x4_3 x4_2 ls hl hL4; cases hL4
    | succ n ih =>
      intro x4_3 x4_2 ls hl hL4
      rw [L_Q_members_4] at hL4
      refine lv_iload_n hx hb d_Q_members_4 rfl (lv_at hl 0 rfl) ?_
      refine lv_bipush (v := 8) hx hb d_Q_members_5 (by decide) ?_
      refine lv_icmp_ge (tgt := 39) hx hb d_Q_members_7 (by decide) (fun c_7 => ?_) (fun c_7 => ?_)
      · have hL4 := zi_p c_7 hL4
        obtain rfl := Option.some.inj hL4
        exact hk4 ls (lv_sub hl [0, 1, 2] rfl)
      · have hL4 := zi_n c_7 hL4
        refine lv_lload_n hx hb d_Q_members_10 rfl (lv_at hl 2 rfl) ?_
        refine lv_iload_n hx hb d_Q_members_11 rfl (lv_at hl 0 rfl) ?_
        obtain ⟨v12, hc12, hL4⟩ := zo_b hL4
        refine vp_callSi (va_Run.run (va_runS (As := [.long x, .int x4_3]) (rest := []) ⟨hx, hb, hml, hown, hts⟩ (c_Q_elementAt l D tys x x4_3 v12 hc12) (va_cwS 2 hts (zg_S k_201 k_202 k_34 g_Q_elementAt) rfl rfl rfl hd_Q_elementAt ⟨Nat.le_of_ble_eq_true rfl, Nat.le_of_ble_eq_true rfl⟩) ⟨zro_b _, zro_p va_Pnil hK hN _⟩ rfl rfl hl.1 rfl (lv_room (Nat.le_of_ble_eq_true rfl)) d_Q_members_12 ⟨Nat.zero_le _, Nat.zero_le _⟩)) (fun r_12 er_12 => ?_)
        have er_12 := er_12.symm
        subst er_12
        refine lv_istore (lv' := [(4, .int v12), (3, .int x4_3), (2, .int x4_2), (0, .long x)]) hx hb d_Q_members_15 hl (by decide) rfl (fun ls hl => ?_)
        refine lv_iload hx hb d_Q_members_17 (lv_at hl 0 rfl) ?_
        refine lv_iconst (v := (-1)) hx hb d_Q_members_19 (by decide) ?_
        refine lv_icmp_ne (tgt := 26) hx hb d_Q_members_20 (by decide) (fun c_20 => ?_) (fun c_20 => ?_)
        · have hL4 := zi_n c_20 hL4
          refine lv_iload_n hx hb d_Q_members_26 rfl (lv_at hl 2 rfl) ?_
          refine lv_iconst (v := 1) hx hb d_Q_members_27 (by decide) ?_
          refine lv_iload hx hb d_Q_members_28 (lv_at hl 0 rfl) ?_
          refine lv_ishl hx hb d_Q_members_30 ?_
          refine lv_ior hx hb d_Q_members_31 ?_
          refine lv_istore_n (lv' := [(2, .int (x4_2 ||| (1 <<< (v12 &&& 31)))), (4, .int v12), (3, .int x4_3), (0, .long x)]) hx hb d_Q_members_32 rfl hl (by decide) rfl (fun ls hl => ?_)
          refine lv_iinc (v := (x4_3 + 1)) (lv' := [(3, .int (x4_3 + 1)), (2, .int (x4_2 ||| (1 <<< (v12 &&& 31)))), (4, .int v12), (0, .long x)]) hx hb d_Q_members_33 hl (k := 2) rfl rfl (by decide) rfl (fun ls hl => ?_)
          refine lv_goto (tgt := 4) hx hb d_Q_members_36 (by decide) ?_
          exact ih (x4_3 + 1) (x4_2 ||| (1 <<< (v12 &&& 31))) ls (lv_sub hl [0, 1, 3] rfl) hL4
        · have hL4 := zi_p c_20 hL4
          refine lv_goto (tgt := 39) hx hb d_Q_members_23 (by decide) ?_
          obtain rfl := Option.some.inj hL4
          exact hk4 ls (lv_sub hl [1, 2, 3] rfl)
  exact hloop4 zfuel 0 0 ls (lv_sub hl [0, 1, 2] rfl) hL4
def L_Q_standingBefore_5 (x : Int64) (k : Int32) : Nat → Int32 → Int32 → Option (Int32 ⊕ (Int32 × Int32))
  | 0, _, _ => none
  | n + 1, x5_4, x5_3 =>
    if 8 ≤ x5_4 then
      some (Sum.inr (x5_4, x5_3))
    else
      Option.bind (f_Q_elementAt x x5_4) (fun v15 =>
        if v15 = k then
          some (Sum.inl x5_3)
        else
          if v15 = (-1) then
            some (Sum.inr (x5_4, x5_3))
          else
            L_Q_standingBefore_5 x k n (x5_4 + 1) (x5_3 ||| (1 <<< (v15 &&& 31))))
def f_Q_standingBefore (x : Int64) (k : Int32) : Option (Int32) :=
  Option.bind (L_Q_standingBefore_5 x k zfuel 0 0) (fun w5 =>
    zs_m w5 (fun r => some r) (fun u5 =>
      some 0))
set_option maxHeartbeats 4000000 in
set_option maxRecDepth 100000 in
theorem c_Q_standingBefore (l : Launch) (D : va_G) (tys : List (ClassId × FieldType)) (x : Int64) (k : Int32) (v : Int32) (hres : f_Q_standingBefore x k = some v) : Met l y_Q_standingBefore w_Q_standingBefore ({ frames := 1, cells := 0, slots := 0, locals := 22 } : Room) (va_Pc ([.long x, .int k]) (zro D tys ([]))) (vp_Si (fun r : Int32 => r = v)) 0 0 (fun _ => False) := by
  refine Met.ofW (cc := b_Q_standingBefore) (maxL := 6) (ret := (some .int)) (by decide) rfl ?_
  intro p e s m args below meth c s₁ B hml hv
  obtain ⟨rfl, hP, hK, hN⟩ := hv
  have hx := B.exec
  have hb := B.bytes
  have hr := B.returns
  have hts : ∀ w ∈ zt, w.before ([.long x, .int k].toArray) s = true := fun w h => atoms_spec (ws := w_Q_standingBefore) B.pre w (List.mem_cons_of_mem _ h)
  have hown : s.vm.findClass R_Q = some m.cls := findClass_of_methodNamed B.named
  have hlocks := B.notSynchronized
  have hl := lv_entry ([.long x, .int k]) (n := 6) (Nat.le_of_ble_eq_true rfl)
  rw [lg_entry_eq]
  generalize (lg_sl ([.long x, .int k]) ++ List.replicate (6 - (lg_sl ([.long x, .int k])).length) Slot.unset).toArray = ls at hl ⊢
  have hl : lv_has ls 6 [(0, .long x), (2, .int k)] := hl
  unfold f_Q_standingBefore at hres
  refine lv_iconst (v := 0) hx hb d_Q_standingBefore_0 (by decide) ?_
  refine lv_istore_n (lv' := [(3, .int 0), (0, .long x), (2, .int k)]) hx hb d_Q_standingBefore_1 rfl hl (by decide) rfl (fun ls hl => ?_)
  refine lv_iconst (v := 0) hx hb d_Q_standingBefore_2 (by decide) ?_
  refine lv_istore (lv' := [(4, .int 0), (3, .int 0), (0, .long x), (2, .int k)]) hx hb d_Q_standingBefore_3 hl (by decide) rfl (fun ls hl => ?_)
  obtain ⟨w5, hL5, hres⟩ := zo_b hres
  have hk5 : ∀ (u5 : Int32 × Int32), w5 = Sum.inr u5 → ∀ (ls : Array Slot), lv_has ls 6 [(4, .int u5.1), (3, .int u5.2), (0, .long x), (2, .int k)] → W p l e (headSpec w_Q_standingBefore ({ frames := 1, cells := 0, slots := 0, locals := 22 } : Room)).room s m ([.long x, .int k].toArray) below meth c s.heap [] 0 0 (MQ below (vp_Si (fun r : Int32 => r = v)) ([.long x, .int k].toArray) s 0 0 (fun _ => False)) (F0 m 50 ls []) := by
    intro u5 hu5 ls hl
    subst hu5
    have hres := zs_r hres
    refine lv_iconst (v := 0) hx hb d_Q_standingBefore_50 (by decide) ?_
    obtain rfl := Option.some.inj hres
    exact W.iret (v := 0) hx hb hr (fun t ht hW => ⟨_, rfl, rfl, ht⟩) (fun _ hq => by cases hq) d_Q_standingBefore_51
  have hloop5 : ∀ (n : Nat) (x5_4 : Int32) (x5_3 : Int32) (ls : Array Slot), lv_has ls 6 [(4, .int x5_4), (3, .int x5_3), (0, .long x), (2, .int k)] → L_Q_standingBefore_5 x k n x5_4 x5_3 = some w5 → W p l e (headSpec w_Q_standingBefore ({ frames := 1, cells := 0, slots := 0, locals := 22 } : Room)).room s m ([.long x, .int k].toArray) below meth c s.heap [] 0 0 (MQ below (vp_Si (fun r : Int32 => r = v)) ([.long x, .int k].toArray) s 0 0 (fun _ => False)) (F0 m 5 ls []) := by
    intro n
    induction n with
    | zero => intro x5_4 x5_3 ls hl hL5; cases hL5
    | succ n ih =>
      intro x5_4 x5_3 ls hl hL5
      rw [L_Q_standingBefore_5] at hL5
      refine lv_iload hx hb d_Q_standingBefore_5 (lv_at hl 0 rfl) ?_
      refine lv_bipush (v := 8) hx hb d_Q_standingBefore_7 (by decide) ?_
      refine lv_icmp_ge (tgt := 50) hx hb d_Q_standingBefore_9 (by decide) (fun c_9 => ?_) (fun c_9 => ?_)
      · have hL5 := zi_p c_9 hL5
        obtain rfl := Option.some.inj hL5
        exact hk5 _ rfl ls (lv_sub hl [0, 1, 2, 3] rfl)
      · have hL5 := zi_n c_9 hL5
        refine lv_lload_n hx hb d_Q_standingBefore_12 rfl (lv_at hl 2 rfl) ?_
        refine lv_iload hx hb d_Q_standingBefore_13 (lv_at hl 0 rfl) ?_
        obtain ⟨v15, hc15, hL5⟩ := zo_b hL5
        refine vp_callSi (va_Run.run (va_runS (As := [.long x, .int x5_4]) (rest := []) ⟨hx, hb, hml, hown, hts⟩ (c_Q_elementAt l D tys x x5_4 v15 hc15) (va_cwS 2 hts (zg_S k_201 k_202 k_34 g_Q_elementAt) rfl rfl rfl hd_Q_elementAt ⟨Nat.le_of_ble_eq_true rfl, Nat.le_of_ble_eq_true rfl⟩) ⟨zro_b _, zro_p va_Pnil hK hN _⟩ rfl rfl hl.1 rfl (lv_room (Nat.le_of_ble_eq_true rfl)) d_Q_standingBefore_15 ⟨Nat.zero_le _, Nat.zero_le _⟩)) (fun r_15 er_15 => ?_)
        have er_15 := er_15.symm
        subst er_15
        refine lv_istore (lv' := [(5, .int v15), (4, .int x5_4), (3, .int x5_3), (0, .long x), (2, .int k)]) hx hb d_Q_standingBefore_18 hl (by decide) rfl (fun ls hl => ?_)
        refine lv_iload hx hb d_Q_standingBefore_20 (lv_at hl 0 rfl) ?_
        refine lv_iload_n hx hb d_Q_standingBefore_22 rfl (lv_at hl 4 rfl) ?_
        refine lv_icmp_ne (tgt := 28) hx hb d_Q_standingBefore_23 (by decide) (fun c_23 => ?_) (fun c_23 => ?_)
        · have hL5 := zi_n c_23 hL5
          refine lv_iload hx hb d_Q_standingBefore_28 (lv_at hl 0 rfl) ?_
          refine lv_iconst (v := (-1)) hx hb d_Q_standingBefore_30 (by decide) ?_
          refine lv_icmp_ne (tgt := 37) hx hb d_Q_standingBefore_31 (by decide) (fun c_31 => ?_) (fun c_31 => ?_)
          · have hL5 := zi_n c_31 hL5
            refine lv_iload_n hx hb d_Q_standingBefore_37 rfl (lv_at hl 2 rfl) ?_
            refine lv_iconst (v := 1) hx hb d_Q_standingBefore_38 (by decide) ?_
            refine lv_iload hx hb d_Q_standingBefore_39 (lv_at hl 0 rfl) ?_
            refine lv_ishl hx hb d_Q_standingBefore_41 ?_
            refine lv_ior hx hb d_Q_standingBefore_42 ?_
            refine lv_istore_n (lv' := [(3, .int (x5_3 ||| (1 <<< (v15 &&& 31)))), (5, .int v15), (4, .int x5_4), (0, .long x), (2, .int k)]) hx hb d_Q_standingBefore_43 rfl hl (by decide) rfl (fun ls hl => ?_)
            refine lv_iinc (v := (x5_4 + 1)) (lv' := [(4, .int (x5_4 + 1)), (3, .int (x5_3 ||| (1 <<< (v15 &&& 31)))), (5, .int v15), (0, .long x), (2, .int k)]) hx hb d_Q_standingBefore_44 hl (k := 2) rfl rfl (by decide) rfl (fun ls hl => ?_)
            refine lv_goto (tgt := 5) hx hb d_Q_standingBefore_47 (by decide) ?_
            exact ih (x5_4 + 1) (x5_3 ||| (1 <<< (v15 &&& 31))) ls (lv_sub hl [0, 1, 3, 4] rfl) hL5
          · have hL5 := zi_p c_31 hL5
            refine lv_goto (tgt := 50) hx hb d_Q_standingBefore_34 (by decide) ?_
            obtain rfl := Option.some.inj hL5
            exact hk5 _ rfl ls (lv_sub hl [1, 2, 3, 4] rfl)
        · have hL5 := zi_p c_23 hL5
          refine lv_iload_n hx hb d_Q_standingBefore_26 rfl (lv_at hl 2 rfl) ?_
          obtain rfl := Option.some.inj hL5
          obtain rfl := Option.some.inj hres
          exact W.iret (v := x5_3) hx hb hr (fun t ht hW => ⟨_, rfl, rfl, ht⟩) (fun _ hq => by cases hq) d_Q_standingBefore_27
  exact hloop5 zfuel 0 0 ls (lv_sub hl [0, 1, 2, 3] rfl) hL5
def f_Q_withElement (x : Int64) (k : Int32) (j : Int32) : Option (Int64) :=
  some (x ||| (zs_l ((1 + j).toInt64) (5 * k)))
set_option maxHeartbeats 4000000 in
set_option maxRecDepth 100000 in
theorem c_Q_withElement (l : Launch) (D : va_G) (tys : List (ClassId × FieldType)) (x : Int64) (k : Int32) (j : Int32) (v : Int64) (hres : f_Q_withElement x k j = some v) : Met l y_Q_withElement w_Q_withElement ({ frames := 0, cells := 0, slots := 0, locals := 0 } : Room) (va_Pc ([.long x, .int k, .int j]) (zro D tys ([]))) (vp_Sl (fun r : Int64 => r = v)) 0 0 (fun _ => False) := by
  refine Met.ofW (cc := b_Q_withElement) (maxL := 4) (ret := (some .long)) (by decide) rfl ?_
  intro p e s m args below meth c s₁ B hml hv
  obtain ⟨rfl, hP, hK, hN⟩ := hv
  have hx := B.exec
  have hb := B.bytes
  have hr := B.returns
  have hts : ∀ w ∈ zt, w.before ([.long x, .int k, .int j].toArray) s = true := fun w h => atoms_spec (ws := w_Q_withElement) B.pre w (List.mem_cons_of_mem _ h)
  have hown : s.vm.findClass R_Q = some m.cls := findClass_of_methodNamed B.named
  have hlocks := B.notSynchronized
  have hl := lv_entry ([.long x, .int k, .int j]) (n := 4) (Nat.le_of_ble_eq_true rfl)
  rw [lg_entry_eq]
  generalize (lg_sl ([.long x, .int k, .int j]) ++ List.replicate (4 - (lg_sl ([.long x, .int k, .int j])).length) Slot.unset).toArray = ls at hl ⊢
  have hl : lv_has ls 4 [(0, .long x), (2, .int k), (3, .int j)] := hl
  unfold f_Q_withElement at hres
  refine lv_lload_n hx hb d_Q_withElement_0 rfl (lv_at hl 0 rfl) ?_
  refine lv_iconst (v := 1) hx hb d_Q_withElement_1 (by decide) ?_
  refine lv_iload_n hx hb d_Q_withElement_2 rfl (lv_at hl 2 rfl) ?_
  refine lv_iadd hx hb d_Q_withElement_3 ?_
  refine lv_i2l (v := (1 + j).toInt64) hx hb d_Q_withElement_4 rfl ?_
  refine lv_iconst (v := 5) hx hb d_Q_withElement_5 (by decide) ?_
  refine lv_iload_n hx hb d_Q_withElement_6 rfl (lv_at hl 1 rfl) ?_
  refine lv_imul hx hb d_Q_withElement_7 ?_
  refine lv_lshl (v := (zs_l ((1 + j).toInt64) (5 * k))) hx hb d_Q_withElement_8 rfl ?_
  refine lv_lor hx hb d_Q_withElement_9 ?_
  obtain rfl := Option.some.inj hres
  exact W.lret (v := (x ||| (zs_l ((1 + j).toInt64) (5 * k)))) hx hb hr (fun t ht hW => ⟨_, rfl, rfl, ht⟩) (fun _ hq => by cases hq) d_Q_withElement_10
def f_Q_withoutFirst (x : Int64) : Option (Int64) :=
  some (zu_l x 5)
set_option maxHeartbeats 4000000 in
set_option maxRecDepth 100000 in
theorem c_Q_withoutFirst (l : Launch) (D : va_G) (tys : List (ClassId × FieldType)) (x : Int64) (v : Int64) (hres : f_Q_withoutFirst x = some v) : Met l y_Q_withoutFirst w_Q_withoutFirst ({ frames := 0, cells := 0, slots := 0, locals := 0 } : Room) (va_Pc ([.long x]) (zro D tys ([]))) (vp_Sl (fun r : Int64 => r = v)) 0 0 (fun _ => False) := by
  refine Met.ofW (cc := b_Q_withoutFirst) (maxL := 2) (ret := (some .long)) (by decide) rfl ?_
  intro p e s m args below meth c s₁ B hml hv
  obtain ⟨rfl, hP, hK, hN⟩ := hv
  have hx := B.exec
  have hb := B.bytes
  have hr := B.returns
  have hts : ∀ w ∈ zt, w.before ([.long x].toArray) s = true := fun w h => atoms_spec (ws := w_Q_withoutFirst) B.pre w (List.mem_cons_of_mem _ h)
  have hown : s.vm.findClass R_Q = some m.cls := findClass_of_methodNamed B.named
  have hlocks := B.notSynchronized
  have hl := lv_entry ([.long x]) (n := 2) (Nat.le_of_ble_eq_true rfl)
  rw [lg_entry_eq]
  generalize (lg_sl ([.long x]) ++ List.replicate (2 - (lg_sl ([.long x])).length) Slot.unset).toArray = ls at hl ⊢
  have hl : lv_has ls 2 [(0, .long x)] := hl
  unfold f_Q_withoutFirst at hres
  refine lv_lload_n hx hb d_Q_withoutFirst_0 rfl (lv_at hl 0 rfl) ?_
  refine lv_iconst (v := 5) hx hb d_Q_withoutFirst_1 (by decide) ?_
  refine lv_lushr (v := (zu_l x 5)) hx hb d_Q_withoutFirst_2 rfl ?_
  obtain rfl := Option.some.inj hres
  exact W.lret (v := (zu_l x 5)) hx hb hr (fun t ht hW => ⟨_, rfl, rfl, ht⟩) (fun _ hq => by cases hq) d_Q_withoutFirst_3
def L_C_mixed_6 (y : Int64) : Nat → Int32 → Int64 → Option (Int32 × Int64)
  | 0, _, _ => none
  | n + 1, x6_6, x6_4 =>
    if 64 ≤ x6_6 then
      some (x6_6, x6_4)
    else
      L_C_mixed_6 y n (x6_6 + 8) ((x6_4 ^^^ ((zu_l y x6_6) &&& 255)) * 1099511628211)
def f_C_mixed (x : Int64) (y : Int64) : Option (Int64) :=
  Option.bind (L_C_mixed_6 y zfuel 0 x) (fun w6 =>
    some w6.2)
set_option maxHeartbeats 4000000 in
set_option maxRecDepth 100000 in
theorem c_C_mixed (l : Launch) (D : va_G) (tys : List (ClassId × FieldType)) (x : Int64) (y : Int64) (v : Int64) (hres : f_C_mixed x y = some v) : Met l y_C_mixed w_C_mixed ({ frames := 0, cells := 0, slots := 0, locals := 0 } : Room) (va_Pc ([.long x, .long y]) (zro D tys ([]))) (vp_Sl (fun r : Int64 => r = v)) 0 0 (fun _ => False) := by
  refine Met.ofW (cc := b_C_mixed) (maxL := 7) (ret := (some .long)) (by decide) rfl ?_
  intro p e s m args below meth c s₁ B hml hv
  obtain ⟨rfl, hP, hK, hN⟩ := hv
  have hx := B.exec
  have hb := B.bytes
  have hr := B.returns
  have hts : ∀ w ∈ zt, w.before ([.long x, .long y].toArray) s = true := fun w h => atoms_spec (ws := w_C_mixed) B.pre w (List.mem_cons_of_mem _ h)
  have hown : s.vm.findClass R_C = some m.cls := findClass_of_methodNamed B.named
  have hlocks := B.notSynchronized
  have hl := lv_entry ([.long x, .long y]) (n := 7) (Nat.le_of_ble_eq_true rfl)
  rw [lg_entry_eq]
  generalize (lg_sl ([.long x, .long y]) ++ List.replicate (7 - (lg_sl ([.long x, .long y])).length) Slot.unset).toArray = ls at hl ⊢
  have hl : lv_has ls 7 [(0, .long x), (2, .long y)] := hl
  unfold f_C_mixed at hres
  refine lv_lload_n hx hb d_C_mixed_0 rfl (lv_at hl 0 rfl) ?_
  refine lv_lstore (lv' := [(4, .long x), (0, .long x), (2, .long y)]) hx hb d_C_mixed_1 hl (by decide) rfl (fun ls hl => ?_)
  refine lv_iconst (v := 0) hx hb d_C_mixed_3 (by decide) ?_
  refine lv_istore (lv' := [(6, .int 0), (4, .long x), (0, .long x), (2, .long y)]) hx hb d_C_mixed_4 hl (by decide) rfl (fun ls hl => ?_)
  obtain ⟨w6, hL6, hres⟩ := zo_b hres
  have hk6 : ∀ (ls : Array Slot), lv_has ls 7 [(6, .int w6.1), (4, .long w6.2), (0, .long x), (2, .long y)] → W p l e (headSpec w_C_mixed ({ frames := 0, cells := 0, slots := 0, locals := 0 } : Room)).room s m ([.long x, .long y].toArray) below meth c s.heap [] 0 0 (MQ below (vp_Sl (fun r : Int64 => r = v)) ([.long x, .long y].toArray) s 0 0 (fun _ => False)) (F0 m 36 ls []) := by
    intro ls hl
    refine lv_lload hx hb d_C_mixed_36 (lv_at hl 1 rfl) ?_
    obtain rfl := Option.some.inj hres
    exact W.lret (v := w6.2) hx hb hr (fun t ht hW => ⟨_, rfl, rfl, ht⟩) (fun _ hq => by cases hq) d_C_mixed_38
  have hloop6 : ∀ (n : Nat) (x6_6 : Int32) (x6_4 : Int64) (ls : Array Slot), lv_has ls 7 [(6, .int x6_6), (4, .long x6_4), (0, .long x), (2, .long y)] → L_C_mixed_6 y n x6_6 x6_4 = some w6 → W p l e (headSpec w_C_mixed ({ frames := 0, cells := 0, slots := 0, locals := 0 } : Room)).room s m ([.long x, .long y].toArray) below meth c s.heap [] 0 0 (MQ below (vp_Sl (fun r : Int64 => r = v)) ([.long x, .long y].toArray) s 0 0 (fun _ => False)) (F0 m 6 ls []) := by
    intro n
    induction n with
    | zero => intro x6_6 x6_4 ls hl hL6; cases hL6
    | succ n ih =>
      intro x6_6 x6_4 ls hl hL6
      rw [L_C_mixed_6] at hL6
      refine lv_iload hx hb d_C_mixed_6 (lv_at hl 0 rfl) ?_
      refine lv_bipush (v := 64) hx hb d_C_mixed_8 (by decide) ?_
      refine lv_icmp_ge (tgt := 36) hx hb d_C_mixed_10 (by decide) (fun c_10 => ?_) (fun c_10 => ?_)
      · have hL6 := zi_p c_10 hL6
        obtain rfl := Option.some.inj hL6
        exact hk6 ls (lv_sub hl [0, 1, 2, 3] rfl)
      · have hL6 := zi_n c_10 hL6
        refine lv_lload hx hb d_C_mixed_13 (lv_at hl 1 rfl) ?_
        refine lv_lload_n hx hb d_C_mixed_15 rfl (lv_at hl 3 rfl) ?_
        refine lv_iload hx hb d_C_mixed_16 (lv_at hl 0 rfl) ?_
        refine lv_lushr (v := (zu_l y x6_6)) hx hb d_C_mixed_18 rfl ?_
        refine lv_ldc2 (v := 255) hx hb hown (hts _ k_243) d_C_mixed_19 ?_
        refine lv_land hx hb d_C_mixed_22 ?_
        refine lv_lxor hx hb d_C_mixed_23 ?_
        refine lv_ldc2 (v := 1099511628211) hx hb hown (hts _ k_244) d_C_mixed_24 ?_
        refine lv_lmul hx hb d_C_mixed_27 ?_
        refine lv_lstore (lv' := [(4, .long ((x6_4 ^^^ ((zu_l y x6_6) &&& 255)) * 1099511628211)), (6, .int x6_6), (0, .long x), (2, .long y)]) hx hb d_C_mixed_28 hl (by decide) rfl (fun ls hl => ?_)
        refine lv_iinc (v := (x6_6 + 8)) (lv' := [(6, .int (x6_6 + 8)), (4, .long ((x6_4 ^^^ ((zu_l y x6_6) &&& 255)) * 1099511628211)), (0, .long x), (2, .long y)]) hx hb d_C_mixed_30 hl (k := 1) rfl rfl (by decide) rfl (fun ls hl => ?_)
        refine lv_goto (tgt := 6) hx hb d_C_mixed_33 (by decide) ?_
        exact ih (x6_6 + 8) ((x6_4 ^^^ ((zu_l y x6_6) &&& 255)) * 1099511628211) ls (lv_sub hl [0, 1, 2, 3] rfl) hL6
  exact hloop6 zfuel 0 x ls (lv_sub hl [0, 1, 2, 3] rfl) hL6
def f_H_isInBounds (k : Int32) (x : Int64) : Option (Int32) :=
  if k = 3 then
    if (lg_cmp x 0) < 0 then
      some 0
    else
      if 0 ≤ (lg_cmp x 32) then
        some 0
      else
        some 1
  else
    if k = 4 then
      if (lg_cmp x 0) < 0 then
        some 0
      else
        if 0 ≤ (lg_cmp x 32) then
          some 0
        else
          some 1
    else
      if k = 5 then
        if (lg_cmp x 0) < 0 then
          some 0
        else
          if 0 ≤ (lg_cmp x 16) then
            some 0
          else
            some 1
      else
        if k < 0 then
          some 0
        else
          if 10 < k then
            some 0
          else
            some 1
set_option maxHeartbeats 4000000 in
set_option maxRecDepth 100000 in
theorem c_H_isInBounds (l : Launch) (D : va_G) (tys : List (ClassId × FieldType)) (k : Int32) (x : Int64) (v : Int32) (hres : f_H_isInBounds k x = some v) : Met l y_H_isInBounds w_H_isInBounds ({ frames := 0, cells := 0, slots := 0, locals := 0 } : Room) (va_Pc ([.int k, .long x]) (zro D tys ([]))) (vp_Si (fun r : Int32 => r = v)) 0 0 (fun _ => False) := by
  refine Met.ofW (cc := b_H_isInBounds) (maxL := 3) (ret := (some .boolean)) (by decide) rfl ?_
  intro p e s m args below meth c s₁ B hml hv
  obtain ⟨rfl, hP, hK, hN⟩ := hv
  have hx := B.exec
  have hb := B.bytes
  have hr := B.returns
  have hts : ∀ w ∈ zt, w.before ([.int k, .long x].toArray) s = true := fun w h => atoms_spec (ws := w_H_isInBounds) B.pre w (List.mem_cons_of_mem _ h)
  have hown : s.vm.findClass R_H = some m.cls := findClass_of_methodNamed B.named
  have hlocks := B.notSynchronized
  have hl := lv_entry ([.int k, .long x]) (n := 3) (Nat.le_of_ble_eq_true rfl)
  rw [lg_entry_eq]
  generalize (lg_sl ([.int k, .long x]) ++ List.replicate (3 - (lg_sl ([.int k, .long x])).length) Slot.unset).toArray = ls at hl ⊢
  have hl : lv_has ls 3 [(0, .int k), (1, .long x)] := hl
  unfold f_H_isInBounds at hres
  refine lv_iload_n hx hb d_H_isInBounds_0 rfl (lv_at hl 0 rfl) ?_
  by_cases c_1_0 : k = 3
  · have hres := zi_p c_1_0 hres
    refine lv_tableIn (off := 27) (tgt := 28) hx hb d_H_isInBounds_1 (by rw [c_1_0]; decide) (by rw [c_1_0]; decide) (by rw [c_1_0]; decide) (by decide) ?_
    refine lv_lload_n hx hb d_H_isInBounds_28 rfl (lv_at hl 1 rfl) ?_
    refine lv_lconst (v := 0) hx hb d_H_isInBounds_29 (by decide) ?_
    refine W.lcmp hx hb d_H_isInBounds_30 ?_
    refine lv_if_lt (tgt := 46) hx hb d_H_isInBounds_31 (by decide) (fun c_31 => ?_) (fun c_31 => ?_)
    · have hres := zi_p c_31 hres
      refine lv_iconst (v := 0) hx hb d_H_isInBounds_46 (by decide) ?_
      obtain rfl := Option.some.inj hres
      exact W.zret (v := 0) (ty := .boolean) hx hb hr rfl (fun t ht hW => ⟨_, rfl, rfl, ht⟩) (fun _ hq => by cases hq) d_H_isInBounds_47
    · have hres := zi_n c_31 hres
      refine lv_lload_n hx hb d_H_isInBounds_34 rfl (lv_at hl 1 rfl) ?_
      refine lv_ldc2 (v := 32) hx hb hown (hts _ k_177) d_H_isInBounds_35 ?_
      refine W.lcmp hx hb d_H_isInBounds_38 ?_
      refine lv_if_ge (tgt := 46) hx hb d_H_isInBounds_39 (by decide) (fun c_39 => ?_) (fun c_39 => ?_)
      · have hres := zi_p c_39 hres
        refine lv_iconst (v := 0) hx hb d_H_isInBounds_46 (by decide) ?_
        obtain rfl := Option.some.inj hres
        exact W.zret (v := 0) (ty := .boolean) hx hb hr rfl (fun t ht hW => ⟨_, rfl, rfl, ht⟩) (fun _ hq => by cases hq) d_H_isInBounds_47
      · have hres := zi_n c_39 hres
        refine lv_iconst (v := 1) hx hb d_H_isInBounds_42 (by decide) ?_
        refine lv_goto (tgt := 47) hx hb d_H_isInBounds_43 (by decide) ?_
        obtain rfl := Option.some.inj hres
        exact W.zret (v := 1) (ty := .boolean) hx hb hr rfl (fun t ht hW => ⟨_, rfl, rfl, ht⟩) (fun _ hq => by cases hq) d_H_isInBounds_47
  · have hres := zi_n c_1_0 hres
    by_cases c_1_1 : k = 4
    · have hres := zi_p c_1_1 hres
      refine lv_tableIn (off := 27) (tgt := 28) hx hb d_H_isInBounds_1 (by rw [c_1_1]; decide) (by rw [c_1_1]; decide) (by rw [c_1_1]; decide) (by decide) ?_
      refine lv_lload_n hx hb d_H_isInBounds_28 rfl (lv_at hl 1 rfl) ?_
      refine lv_lconst (v := 0) hx hb d_H_isInBounds_29 (by decide) ?_
      refine W.lcmp hx hb d_H_isInBounds_30 ?_
      refine lv_if_lt (tgt := 46) hx hb d_H_isInBounds_31 (by decide) (fun c_31 => ?_) (fun c_31 => ?_)
      · have hres := zi_p c_31 hres
        refine lv_iconst (v := 0) hx hb d_H_isInBounds_46 (by decide) ?_
        obtain rfl := Option.some.inj hres
        exact W.zret (v := 0) (ty := .boolean) hx hb hr rfl (fun t ht hW => ⟨_, rfl, rfl, ht⟩) (fun _ hq => by cases hq) d_H_isInBounds_47
      · have hres := zi_n c_31 hres
        refine lv_lload_n hx hb d_H_isInBounds_34 rfl (lv_at hl 1 rfl) ?_
        refine lv_ldc2 (v := 32) hx hb hown (hts _ k_177) d_H_isInBounds_35 ?_
        refine W.lcmp hx hb d_H_isInBounds_38 ?_
        refine lv_if_ge (tgt := 46) hx hb d_H_isInBounds_39 (by decide) (fun c_39 => ?_) (fun c_39 => ?_)
        · have hres := zi_p c_39 hres
          refine lv_iconst (v := 0) hx hb d_H_isInBounds_46 (by decide) ?_
          obtain rfl := Option.some.inj hres
          exact W.zret (v := 0) (ty := .boolean) hx hb hr rfl (fun t ht hW => ⟨_, rfl, rfl, ht⟩) (fun _ hq => by cases hq) d_H_isInBounds_47
        · have hres := zi_n c_39 hres
          refine lv_iconst (v := 1) hx hb d_H_isInBounds_42 (by decide) ?_
          refine lv_goto (tgt := 47) hx hb d_H_isInBounds_43 (by decide) ?_
          obtain rfl := Option.some.inj hres
          exact W.zret (v := 1) (ty := .boolean) hx hb hr rfl (fun t ht hW => ⟨_, rfl, rfl, ht⟩) (fun _ hq => by cases hq) d_H_isInBounds_47
    · have hres := zi_n c_1_1 hres
      by_cases c_1_2 : k = 5
      · have hres := zi_p c_1_2 hres
        refine lv_tableIn (off := 47) (tgt := 48) hx hb d_H_isInBounds_1 (by rw [c_1_2]; decide) (by rw [c_1_2]; decide) (by rw [c_1_2]; decide) (by decide) ?_
        refine lv_lload_n hx hb d_H_isInBounds_48 rfl (lv_at hl 1 rfl) ?_
        refine lv_lconst (v := 0) hx hb d_H_isInBounds_49 (by decide) ?_
        refine W.lcmp hx hb d_H_isInBounds_50 ?_
        refine lv_if_lt (tgt := 66) hx hb d_H_isInBounds_51 (by decide) (fun c_51 => ?_) (fun c_51 => ?_)
        · have hres := zi_p c_51 hres
          refine lv_iconst (v := 0) hx hb d_H_isInBounds_66 (by decide) ?_
          obtain rfl := Option.some.inj hres
          exact W.zret (v := 0) (ty := .boolean) hx hb hr rfl (fun t ht hW => ⟨_, rfl, rfl, ht⟩) (fun _ hq => by cases hq) d_H_isInBounds_67
        · have hres := zi_n c_51 hres
          refine lv_lload_n hx hb d_H_isInBounds_54 rfl (lv_at hl 1 rfl) ?_
          refine lv_ldc2 (v := 16) hx hb hown (hts _ k_178) d_H_isInBounds_55 ?_
          refine W.lcmp hx hb d_H_isInBounds_58 ?_
          refine lv_if_ge (tgt := 66) hx hb d_H_isInBounds_59 (by decide) (fun c_59 => ?_) (fun c_59 => ?_)
          · have hres := zi_p c_59 hres
            refine lv_iconst (v := 0) hx hb d_H_isInBounds_66 (by decide) ?_
            obtain rfl := Option.some.inj hres
            exact W.zret (v := 0) (ty := .boolean) hx hb hr rfl (fun t ht hW => ⟨_, rfl, rfl, ht⟩) (fun _ hq => by cases hq) d_H_isInBounds_67
          · have hres := zi_n c_59 hres
            refine lv_iconst (v := 1) hx hb d_H_isInBounds_62 (by decide) ?_
            refine lv_goto (tgt := 67) hx hb d_H_isInBounds_63 (by decide) ?_
            obtain rfl := Option.some.inj hres
            exact W.zret (v := 1) (ty := .boolean) hx hb hr rfl (fun t ht hW => ⟨_, rfl, rfl, ht⟩) (fun _ hq => by cases hq) d_H_isInBounds_67
      · have hres := zi_n c_1_2 hres
        have e_1_0 := lv_neT c_1_0 (a := 3) (by decide)
        have e_1_1 := lv_neT c_1_1 (a := 4) (by decide)
        have e_1_2 := lv_neT c_1_2 (a := 5) (by decide)
        refine lv_tableOut (tgt := 68) hx hb d_H_isInBounds_1 (by omega) (by decide) ?_
        refine lv_iload_n hx hb d_H_isInBounds_68 rfl (lv_at hl 0 rfl) ?_
        refine lv_if_lt (tgt := 82) hx hb d_H_isInBounds_69 (by decide) (fun c_69 => ?_) (fun c_69 => ?_)
        · have hres := zi_p c_69 hres
          refine lv_iconst (v := 0) hx hb d_H_isInBounds_82 (by decide) ?_
          obtain rfl := Option.some.inj hres
          exact W.zret (v := 0) (ty := .boolean) hx hb hr rfl (fun t ht hW => ⟨_, rfl, rfl, ht⟩) (fun _ hq => by cases hq) d_H_isInBounds_83
        · have hres := zi_n c_69 hres
          refine lv_iload_n hx hb d_H_isInBounds_72 rfl (lv_at hl 0 rfl) ?_
          refine lv_bipush (v := 10) hx hb d_H_isInBounds_73 (by decide) ?_
          refine lv_icmp_gt (tgt := 82) hx hb d_H_isInBounds_75 (by decide) (fun c_75 => ?_) (fun c_75 => ?_)
          · have hres := zi_p c_75 hres
            refine lv_iconst (v := 0) hx hb d_H_isInBounds_82 (by decide) ?_
            obtain rfl := Option.some.inj hres
            exact W.zret (v := 0) (ty := .boolean) hx hb hr rfl (fun t ht hW => ⟨_, rfl, rfl, ht⟩) (fun _ hq => by cases hq) d_H_isInBounds_83
          · have hres := zi_n c_75 hres
            refine lv_iconst (v := 1) hx hb d_H_isInBounds_78 (by decide) ?_
            refine lv_goto (tgt := 83) hx hb d_H_isInBounds_79 (by decide) ?_
            obtain rfl := Option.some.inj hres
            exact W.zret (v := 1) (ty := .boolean) hx hb hr rfl (fun t ht hW => ⟨_, rfl, rfl, ht⟩) (fun _ hq => by cases hq) d_H_isInBounds_83
def f_M_mergedLong (x : Int64) (y : Int64) (z : Int64) : Option (Int64) :=
  some ((y + z) - x)
set_option maxHeartbeats 4000000 in
set_option maxRecDepth 100000 in
theorem c_M_mergedLong (l : Launch) (D : va_G) (tys : List (ClassId × FieldType)) (x : Int64) (y : Int64) (z : Int64) (v : Int64) (hres : f_M_mergedLong x y z = some v) : Met l y_M_mergedLong w_M_mergedLong ({ frames := 0, cells := 0, slots := 0, locals := 0 } : Room) (va_Pc ([.long x, .long y, .long z]) (zro D tys ([]))) (vp_Sl (fun r : Int64 => r = v)) 0 0 (fun _ => False) := by
  refine Met.ofW (cc := b_M_mergedLong) (maxL := 6) (ret := (some .long)) (by decide) rfl ?_
  intro p e s m args below meth c s₁ B hml hv
  obtain ⟨rfl, hP, hK, hN⟩ := hv
  have hx := B.exec
  have hb := B.bytes
  have hr := B.returns
  have hts : ∀ w ∈ zt, w.before ([.long x, .long y, .long z].toArray) s = true := fun w h => atoms_spec (ws := w_M_mergedLong) B.pre w (List.mem_cons_of_mem _ h)
  have hown : s.vm.findClass R_M = some m.cls := findClass_of_methodNamed B.named
  have hlocks := B.notSynchronized
  have hl := lv_entry ([.long x, .long y, .long z]) (n := 6) (Nat.le_of_ble_eq_true rfl)
  rw [lg_entry_eq]
  generalize (lg_sl ([.long x, .long y, .long z]) ++ List.replicate (6 - (lg_sl ([.long x, .long y, .long z])).length) Slot.unset).toArray = ls at hl ⊢
  have hl : lv_has ls 6 [(0, .long x), (2, .long y), (4, .long z)] := hl
  unfold f_M_mergedLong at hres
  refine lv_lload_n hx hb d_M_mergedLong_0 rfl (lv_at hl 1 rfl) ?_
  refine lv_lload hx hb d_M_mergedLong_1 (lv_at hl 2 rfl) ?_
  refine lv_ladd hx hb d_M_mergedLong_3 ?_
  refine lv_lload_n hx hb d_M_mergedLong_4 rfl (lv_at hl 0 rfl) ?_
  refine lv_lsub hx hb d_M_mergedLong_5 ?_
  obtain rfl := Option.some.inj hres
  exact W.lret (v := ((y + z) - x)) hx hb hr (fun t ht hW => ⟨_, rfl, rfl, ht⟩) (fun _ hq => by cases hq) d_M_mergedLong_6
def f_M_clash (i : Int32) (j : Int32) (k : Int32) : Option (Int32) :=
  if j = i then
    some 0
  else
    if k = i then
      some 0
    else
      if j = k then
        some 0
      else
        some 1
set_option maxHeartbeats 4000000 in
set_option maxRecDepth 100000 in
theorem c_M_clash (l : Launch) (D : va_G) (tys : List (ClassId × FieldType)) (i : Int32) (j : Int32) (k : Int32) (v : Int32) (hres : f_M_clash i j k = some v) : Met l y_M_clash w_M_clash ({ frames := 0, cells := 0, slots := 0, locals := 0 } : Room) (va_Pc ([.int i, .int j, .int k]) (zro D tys ([]))) (vp_Si (fun r : Int32 => r = v)) 0 0 (fun _ => False) := by
  refine Met.ofW (cc := b_M_clash) (maxL := 3) (ret := (some .boolean)) (by decide) rfl ?_
  intro p e s m args below meth c s₁ B hml hv
  obtain ⟨rfl, hP, hK, hN⟩ := hv
  have hx := B.exec
  have hb := B.bytes
  have hr := B.returns
  have hts : ∀ w ∈ zt, w.before ([.int i, .int j, .int k].toArray) s = true := fun w h => atoms_spec (ws := w_M_clash) B.pre w (List.mem_cons_of_mem _ h)
  have hown : s.vm.findClass R_M = some m.cls := findClass_of_methodNamed B.named
  have hlocks := B.notSynchronized
  have hl := lv_entry ([.int i, .int j, .int k]) (n := 3) (Nat.le_of_ble_eq_true rfl)
  rw [lg_entry_eq]
  generalize (lg_sl ([.int i, .int j, .int k]) ++ List.replicate (3 - (lg_sl ([.int i, .int j, .int k])).length) Slot.unset).toArray = ls at hl ⊢
  have hl : lv_has ls 3 [(0, .int i), (1, .int j), (2, .int k)] := hl
  unfold f_M_clash at hres
  refine lv_iload_n hx hb d_M_clash_0 rfl (lv_at hl 1 rfl) ?_
  refine lv_iload_n hx hb d_M_clash_1 rfl (lv_at hl 0 rfl) ?_
  refine lv_icmp_eq (tgt := 19) hx hb d_M_clash_2 (by decide) (fun c_2 => ?_) (fun c_2 => ?_)
  · have hres := zi_p c_2 hres
    refine lv_iconst (v := 0) hx hb d_M_clash_19 (by decide) ?_
    obtain rfl := Option.some.inj hres
    exact W.zret (v := 0) (ty := .boolean) hx hb hr rfl (fun t ht hW => ⟨_, rfl, rfl, ht⟩) (fun _ hq => by cases hq) d_M_clash_20
  · have hres := zi_n c_2 hres
    refine lv_iload_n hx hb d_M_clash_5 rfl (lv_at hl 2 rfl) ?_
    refine lv_iload_n hx hb d_M_clash_6 rfl (lv_at hl 0 rfl) ?_
    refine lv_icmp_eq (tgt := 19) hx hb d_M_clash_7 (by decide) (fun c_7 => ?_) (fun c_7 => ?_)
    · have hres := zi_p c_7 hres
      refine lv_iconst (v := 0) hx hb d_M_clash_19 (by decide) ?_
      obtain rfl := Option.some.inj hres
      exact W.zret (v := 0) (ty := .boolean) hx hb hr rfl (fun t ht hW => ⟨_, rfl, rfl, ht⟩) (fun _ hq => by cases hq) d_M_clash_20
    · have hres := zi_n c_7 hres
      refine lv_iload_n hx hb d_M_clash_10 rfl (lv_at hl 1 rfl) ?_
      refine lv_iload_n hx hb d_M_clash_11 rfl (lv_at hl 2 rfl) ?_
      refine lv_icmp_eq (tgt := 19) hx hb d_M_clash_12 (by decide) (fun c_12 => ?_) (fun c_12 => ?_)
      · have hres := zi_p c_12 hres
        refine lv_iconst (v := 0) hx hb d_M_clash_19 (by decide) ?_
        obtain rfl := Option.some.inj hres
        exact W.zret (v := 0) (ty := .boolean) hx hb hr rfl (fun t ht hW => ⟨_, rfl, rfl, ht⟩) (fun _ hq => by cases hq) d_M_clash_20
      · have hres := zi_n c_12 hres
        refine lv_iconst (v := 1) hx hb d_M_clash_15 (by decide) ?_
        refine lv_goto (tgt := 20) hx hb d_M_clash_16 (by decide) ?_
        obtain rfl := Option.some.inj hres
        exact W.zret (v := 1) (ty := .boolean) hx hb hr rfl (fun t ht hW => ⟨_, rfl, rfl, ht⟩) (fun _ hq => by cases hq) d_M_clash_20
def f_M_mergedInt (i : Int32) (j : Int32) (k : Int32) : Option (Int32) :=
  if j = i then
    some k
  else
    some j
set_option maxHeartbeats 4000000 in
set_option maxRecDepth 100000 in
theorem c_M_mergedInt (l : Launch) (D : va_G) (tys : List (ClassId × FieldType)) (i : Int32) (j : Int32) (k : Int32) (v : Int32) (hres : f_M_mergedInt i j k = some v) : Met l y_M_mergedInt w_M_mergedInt ({ frames := 0, cells := 0, slots := 0, locals := 0 } : Room) (va_Pc ([.int i, .int j, .int k]) (zro D tys ([]))) (vp_Si (fun r : Int32 => r = v)) 0 0 (fun _ => False) := by
  refine Met.ofW (cc := b_M_mergedInt) (maxL := 3) (ret := (some .int)) (by decide) rfl ?_
  intro p e s m args below meth c s₁ B hml hv
  obtain ⟨rfl, hP, hK, hN⟩ := hv
  have hx := B.exec
  have hb := B.bytes
  have hr := B.returns
  have hts : ∀ w ∈ zt, w.before ([.int i, .int j, .int k].toArray) s = true := fun w h => atoms_spec (ws := w_M_mergedInt) B.pre w (List.mem_cons_of_mem _ h)
  have hown : s.vm.findClass R_M = some m.cls := findClass_of_methodNamed B.named
  have hlocks := B.notSynchronized
  have hl := lv_entry ([.int i, .int j, .int k]) (n := 3) (Nat.le_of_ble_eq_true rfl)
  rw [lg_entry_eq]
  generalize (lg_sl ([.int i, .int j, .int k]) ++ List.replicate (3 - (lg_sl ([.int i, .int j, .int k])).length) Slot.unset).toArray = ls at hl ⊢
  have hl : lv_has ls 3 [(0, .int i), (1, .int j), (2, .int k)] := hl
  unfold f_M_mergedInt at hres
  refine lv_iload_n hx hb d_M_mergedInt_0 rfl (lv_at hl 1 rfl) ?_
  refine lv_iload_n hx hb d_M_mergedInt_1 rfl (lv_at hl 0 rfl) ?_
  refine lv_icmp_ne (tgt := 9) hx hb d_M_mergedInt_2 (by decide) (fun c_2 => ?_) (fun c_2 => ?_)
  · have hres := zi_n c_2 hres
    refine lv_iload_n hx hb d_M_mergedInt_9 rfl (lv_at hl 1 rfl) ?_
    obtain rfl := Option.some.inj hres
    exact W.iret (v := j) hx hb hr (fun t ht hW => ⟨_, rfl, rfl, ht⟩) (fun _ hq => by cases hq) d_M_mergedInt_10
  · have hres := zi_p c_2 hres
    refine lv_iload_n hx hb d_M_mergedInt_5 rfl (lv_at hl 2 rfl) ?_
    refine lv_goto (tgt := 10) hx hb d_M_mergedInt_6 (by decide) ?_
    obtain rfl := Option.some.inj hres
    exact W.iret (v := k) hx hb hr (fun t ht hW => ⟨_, rfl, rfl, ht⟩) (fun _ hq => by cases hq) d_M_mergedInt_10
def f_M_mergedSet (i : Int32) (j : Int32) (k : Int32) : Option (Int32) :=
  some ((((i &&& j) &&& k) ||| (j &&& (i ^^^ (-1)))) ||| (k &&& (i ^^^ (-1))))
set_option maxHeartbeats 4000000 in
set_option maxRecDepth 100000 in
theorem c_M_mergedSet (l : Launch) (D : va_G) (tys : List (ClassId × FieldType)) (i : Int32) (j : Int32) (k : Int32) (v : Int32) (hres : f_M_mergedSet i j k = some v) : Met l y_M_mergedSet w_M_mergedSet ({ frames := 0, cells := 0, slots := 0, locals := 0 } : Room) (va_Pc ([.int i, .int j, .int k]) (zro D tys ([]))) (vp_Si (fun r : Int32 => r = v)) 0 0 (fun _ => False) := by
  refine Met.ofW (cc := b_M_mergedSet) (maxL := 3) (ret := (some .int)) (by decide) rfl ?_
  intro p e s m args below meth c s₁ B hml hv
  obtain ⟨rfl, hP, hK, hN⟩ := hv
  have hx := B.exec
  have hb := B.bytes
  have hr := B.returns
  have hts : ∀ w ∈ zt, w.before ([.int i, .int j, .int k].toArray) s = true := fun w h => atoms_spec (ws := w_M_mergedSet) B.pre w (List.mem_cons_of_mem _ h)
  have hown : s.vm.findClass R_M = some m.cls := findClass_of_methodNamed B.named
  have hlocks := B.notSynchronized
  have hl := lv_entry ([.int i, .int j, .int k]) (n := 3) (Nat.le_of_ble_eq_true rfl)
  rw [lg_entry_eq]
  generalize (lg_sl ([.int i, .int j, .int k]) ++ List.replicate (3 - (lg_sl ([.int i, .int j, .int k])).length) Slot.unset).toArray = ls at hl ⊢
  have hl : lv_has ls 3 [(0, .int i), (1, .int j), (2, .int k)] := hl
  unfold f_M_mergedSet at hres
  refine lv_iload_n hx hb d_M_mergedSet_0 rfl (lv_at hl 0 rfl) ?_
  refine lv_iload_n hx hb d_M_mergedSet_1 rfl (lv_at hl 1 rfl) ?_
  refine lv_iand hx hb d_M_mergedSet_2 ?_
  refine lv_iload_n hx hb d_M_mergedSet_3 rfl (lv_at hl 2 rfl) ?_
  refine lv_iand hx hb d_M_mergedSet_4 ?_
  refine lv_iload_n hx hb d_M_mergedSet_5 rfl (lv_at hl 1 rfl) ?_
  refine lv_iload_n hx hb d_M_mergedSet_6 rfl (lv_at hl 0 rfl) ?_
  refine lv_iconst (v := (-1)) hx hb d_M_mergedSet_7 (by decide) ?_
  refine lv_ixor hx hb d_M_mergedSet_8 ?_
  refine lv_iand hx hb d_M_mergedSet_9 ?_
  refine lv_ior hx hb d_M_mergedSet_10 ?_
  refine lv_iload_n hx hb d_M_mergedSet_11 rfl (lv_at hl 2 rfl) ?_
  refine lv_iload_n hx hb d_M_mergedSet_12 rfl (lv_at hl 0 rfl) ?_
  refine lv_iconst (v := (-1)) hx hb d_M_mergedSet_13 (by decide) ?_
  refine lv_ixor hx hb d_M_mergedSet_14 ?_
  refine lv_iand hx hb d_M_mergedSet_15 ?_
  refine lv_ior hx hb d_M_mergedSet_16 ?_
  obtain rfl := Option.some.inj hres
  exact W.iret (v := ((((i &&& j) &&& k) ||| (j &&& (i ^^^ (-1)))) ||| (k &&& (i ^^^ (-1))))) hx hb hr (fun t ht hW => ⟨_, rfl, rfl, ht⟩) (fun _ hq => by cases hq) d_M_mergedSet_17
def f_JI_bitCount (k : Int32) : Option (Int32) :=
  some ((((((((k - ((zu_i k 1) &&& 1431655765)) &&& 858993459) + ((zu_i (k - ((zu_i k 1) &&& 1431655765)) 2) &&& 858993459)) + (zu_i (((k - ((zu_i k 1) &&& 1431655765)) &&& 858993459) + ((zu_i (k - ((zu_i k 1) &&& 1431655765)) 2) &&& 858993459)) 4)) &&& 252645135) + (zu_i (((((k - ((zu_i k 1) &&& 1431655765)) &&& 858993459) + ((zu_i (k - ((zu_i k 1) &&& 1431655765)) 2) &&& 858993459)) + (zu_i (((k - ((zu_i k 1) &&& 1431655765)) &&& 858993459) + ((zu_i (k - ((zu_i k 1) &&& 1431655765)) 2) &&& 858993459)) 4)) &&& 252645135) 8)) + (zu_i ((((((k - ((zu_i k 1) &&& 1431655765)) &&& 858993459) + ((zu_i (k - ((zu_i k 1) &&& 1431655765)) 2) &&& 858993459)) + (zu_i (((k - ((zu_i k 1) &&& 1431655765)) &&& 858993459) + ((zu_i (k - ((zu_i k 1) &&& 1431655765)) 2) &&& 858993459)) 4)) &&& 252645135) + (zu_i (((((k - ((zu_i k 1) &&& 1431655765)) &&& 858993459) + ((zu_i (k - ((zu_i k 1) &&& 1431655765)) 2) &&& 858993459)) + (zu_i (((k - ((zu_i k 1) &&& 1431655765)) &&& 858993459) + ((zu_i (k - ((zu_i k 1) &&& 1431655765)) 2) &&& 858993459)) 4)) &&& 252645135) 8)) 16)) &&& 63)
set_option maxHeartbeats 4000000 in
set_option maxRecDepth 100000 in
theorem c_JI_bitCount (l : Launch) (D : va_G) (tys : List (ClassId × FieldType)) (k : Int32) (v : Int32) (hres : f_JI_bitCount k = some v) : Met l y_JI_bitCount w_JI_bitCount ({ frames := 0, cells := 0, slots := 0, locals := 0 } : Room) (va_Pc ([.int k]) (zro D tys ([]))) (vp_Si (fun r : Int32 => r = v)) 0 0 (fun _ => False) := by
  refine Met.ofW (cc := b_JI_bitCount) (maxL := 1) (ret := (some .int)) (by decide) rfl ?_
  intro p e s m args below meth c s₁ B hml hv
  obtain ⟨rfl, hP, hK, hN⟩ := hv
  have hx := B.exec
  have hb := B.bytes
  have hr := B.returns
  have hts : ∀ w ∈ zt, w.before ([.int k].toArray) s = true := fun w h => atoms_spec (ws := w_JI_bitCount) B.pre w (List.mem_cons_of_mem _ h)
  have hown : s.vm.findClass R_JI = some m.cls := findClass_of_methodNamed B.named
  have hlocks := B.notSynchronized
  have hl := lv_entry ([.int k]) (n := 1) (Nat.le_of_ble_eq_true rfl)
  rw [lg_entry_eq]
  generalize (lg_sl ([.int k]) ++ List.replicate (1 - (lg_sl ([.int k])).length) Slot.unset).toArray = ls at hl ⊢
  have hl : lv_has ls 1 [(0, .int k)] := hl
  unfold f_JI_bitCount at hres
  refine lv_iload_n hx hb d_JI_bitCount_0 rfl (lv_at hl 0 rfl) ?_
  refine lv_iload_n hx hb d_JI_bitCount_1 rfl (lv_at hl 0 rfl) ?_
  refine lv_iconst (v := 1) hx hb d_JI_bitCount_2 (by decide) ?_
  refine lv_iushr (v := (zu_i k 1)) hx hb d_JI_bitCount_3 rfl ?_
  refine lv_ldcw (v := 1431655765) hx hb hown (hts _ k_349) d_JI_bitCount_4 ?_
  refine lv_iand hx hb d_JI_bitCount_7 ?_
  refine lv_isub hx hb d_JI_bitCount_8 ?_
  refine lv_istore_n (lv' := [(0, .int (k - ((zu_i k 1) &&& 1431655765)))]) hx hb d_JI_bitCount_9 rfl hl (by decide) rfl (fun ls hl => ?_)
  refine lv_iload_n hx hb d_JI_bitCount_10 rfl (lv_at hl 0 rfl) ?_
  refine lv_ldcw (v := 858993459) hx hb hown (hts _ k_350) d_JI_bitCount_11 ?_
  refine lv_iand hx hb d_JI_bitCount_14 ?_
  refine lv_iload_n hx hb d_JI_bitCount_15 rfl (lv_at hl 0 rfl) ?_
  refine lv_iconst (v := 2) hx hb d_JI_bitCount_16 (by decide) ?_
  refine lv_iushr (v := (zu_i (k - ((zu_i k 1) &&& 1431655765)) 2)) hx hb d_JI_bitCount_17 rfl ?_
  refine lv_ldcw (v := 858993459) hx hb hown (hts _ k_350) d_JI_bitCount_18 ?_
  refine lv_iand hx hb d_JI_bitCount_21 ?_
  refine lv_iadd hx hb d_JI_bitCount_22 ?_
  refine lv_istore_n (lv' := [(0, .int (((k - ((zu_i k 1) &&& 1431655765)) &&& 858993459) + ((zu_i (k - ((zu_i k 1) &&& 1431655765)) 2) &&& 858993459)))]) hx hb d_JI_bitCount_23 rfl hl (by decide) rfl (fun ls hl => ?_)
  refine lv_iload_n hx hb d_JI_bitCount_24 rfl (lv_at hl 0 rfl) ?_
  refine lv_iload_n hx hb d_JI_bitCount_25 rfl (lv_at hl 0 rfl) ?_
  refine lv_iconst (v := 4) hx hb d_JI_bitCount_26 (by decide) ?_
  refine lv_iushr (v := (zu_i (((k - ((zu_i k 1) &&& 1431655765)) &&& 858993459) + ((zu_i (k - ((zu_i k 1) &&& 1431655765)) 2) &&& 858993459)) 4)) hx hb d_JI_bitCount_27 rfl ?_
  refine lv_iadd hx hb d_JI_bitCount_28 ?_
  refine lv_ldcw (v := 252645135) hx hb hown (hts _ k_351) d_JI_bitCount_29 ?_
  refine lv_iand hx hb d_JI_bitCount_32 ?_
  refine lv_istore_n (lv' := [(0, .int (((((k - ((zu_i k 1) &&& 1431655765)) &&& 858993459) + ((zu_i (k - ((zu_i k 1) &&& 1431655765)) 2) &&& 858993459)) + (zu_i (((k - ((zu_i k 1) &&& 1431655765)) &&& 858993459) + ((zu_i (k - ((zu_i k 1) &&& 1431655765)) 2) &&& 858993459)) 4)) &&& 252645135))]) hx hb d_JI_bitCount_33 rfl hl (by decide) rfl (fun ls hl => ?_)
  refine lv_iload_n hx hb d_JI_bitCount_34 rfl (lv_at hl 0 rfl) ?_
  refine lv_iload_n hx hb d_JI_bitCount_35 rfl (lv_at hl 0 rfl) ?_
  refine lv_bipush (v := 8) hx hb d_JI_bitCount_36 (by decide) ?_
  refine lv_iushr (v := (zu_i (((((k - ((zu_i k 1) &&& 1431655765)) &&& 858993459) + ((zu_i (k - ((zu_i k 1) &&& 1431655765)) 2) &&& 858993459)) + (zu_i (((k - ((zu_i k 1) &&& 1431655765)) &&& 858993459) + ((zu_i (k - ((zu_i k 1) &&& 1431655765)) 2) &&& 858993459)) 4)) &&& 252645135) 8)) hx hb d_JI_bitCount_38 rfl ?_
  refine lv_iadd hx hb d_JI_bitCount_39 ?_
  refine lv_istore_n (lv' := [(0, .int ((((((k - ((zu_i k 1) &&& 1431655765)) &&& 858993459) + ((zu_i (k - ((zu_i k 1) &&& 1431655765)) 2) &&& 858993459)) + (zu_i (((k - ((zu_i k 1) &&& 1431655765)) &&& 858993459) + ((zu_i (k - ((zu_i k 1) &&& 1431655765)) 2) &&& 858993459)) 4)) &&& 252645135) + (zu_i (((((k - ((zu_i k 1) &&& 1431655765)) &&& 858993459) + ((zu_i (k - ((zu_i k 1) &&& 1431655765)) 2) &&& 858993459)) + (zu_i (((k - ((zu_i k 1) &&& 1431655765)) &&& 858993459) + ((zu_i (k - ((zu_i k 1) &&& 1431655765)) 2) &&& 858993459)) 4)) &&& 252645135) 8)))]) hx hb d_JI_bitCount_40 rfl hl (by decide) rfl (fun ls hl => ?_)
  refine lv_iload_n hx hb d_JI_bitCount_41 rfl (lv_at hl 0 rfl) ?_
  refine lv_iload_n hx hb d_JI_bitCount_42 rfl (lv_at hl 0 rfl) ?_
  refine lv_bipush (v := 16) hx hb d_JI_bitCount_43 (by decide) ?_
  refine lv_iushr (v := (zu_i ((((((k - ((zu_i k 1) &&& 1431655765)) &&& 858993459) + ((zu_i (k - ((zu_i k 1) &&& 1431655765)) 2) &&& 858993459)) + (zu_i (((k - ((zu_i k 1) &&& 1431655765)) &&& 858993459) + ((zu_i (k - ((zu_i k 1) &&& 1431655765)) 2) &&& 858993459)) 4)) &&& 252645135) + (zu_i (((((k - ((zu_i k 1) &&& 1431655765)) &&& 858993459) + ((zu_i (k - ((zu_i k 1) &&& 1431655765)) 2) &&& 858993459)) + (zu_i (((k - ((zu_i k 1) &&& 1431655765)) &&& 858993459) + ((zu_i (k - ((zu_i k 1) &&& 1431655765)) 2) &&& 858993459)) 4)) &&& 252645135) 8)) 16)) hx hb d_JI_bitCount_45 rfl ?_
  refine lv_iadd hx hb d_JI_bitCount_46 ?_
  refine lv_istore_n (lv' := [(0, .int (((((((k - ((zu_i k 1) &&& 1431655765)) &&& 858993459) + ((zu_i (k - ((zu_i k 1) &&& 1431655765)) 2) &&& 858993459)) + (zu_i (((k - ((zu_i k 1) &&& 1431655765)) &&& 858993459) + ((zu_i (k - ((zu_i k 1) &&& 1431655765)) 2) &&& 858993459)) 4)) &&& 252645135) + (zu_i (((((k - ((zu_i k 1) &&& 1431655765)) &&& 858993459) + ((zu_i (k - ((zu_i k 1) &&& 1431655765)) 2) &&& 858993459)) + (zu_i (((k - ((zu_i k 1) &&& 1431655765)) &&& 858993459) + ((zu_i (k - ((zu_i k 1) &&& 1431655765)) 2) &&& 858993459)) 4)) &&& 252645135) 8)) + (zu_i ((((((k - ((zu_i k 1) &&& 1431655765)) &&& 858993459) + ((zu_i (k - ((zu_i k 1) &&& 1431655765)) 2) &&& 858993459)) + (zu_i (((k - ((zu_i k 1) &&& 1431655765)) &&& 858993459) + ((zu_i (k - ((zu_i k 1) &&& 1431655765)) 2) &&& 858993459)) 4)) &&& 252645135) + (zu_i (((((k - ((zu_i k 1) &&& 1431655765)) &&& 858993459) + ((zu_i (k - ((zu_i k 1) &&& 1431655765)) 2) &&& 858993459)) + (zu_i (((k - ((zu_i k 1) &&& 1431655765)) &&& 858993459) + ((zu_i (k - ((zu_i k 1) &&& 1431655765)) 2) &&& 858993459)) 4)) &&& 252645135) 8)) 16)))]) hx hb d_JI_bitCount_47 rfl hl (by decide) rfl (fun ls hl => ?_)
  refine lv_iload_n hx hb d_JI_bitCount_48 rfl (lv_at hl 0 rfl) ?_
  refine lv_bipush (v := 63) hx hb d_JI_bitCount_49 (by decide) ?_
  refine lv_iand hx hb d_JI_bitCount_51 ?_
  obtain rfl := Option.some.inj hres
  exact W.iret (v := ((((((((k - ((zu_i k 1) &&& 1431655765)) &&& 858993459) + ((zu_i (k - ((zu_i k 1) &&& 1431655765)) 2) &&& 858993459)) + (zu_i (((k - ((zu_i k 1) &&& 1431655765)) &&& 858993459) + ((zu_i (k - ((zu_i k 1) &&& 1431655765)) 2) &&& 858993459)) 4)) &&& 252645135) + (zu_i (((((k - ((zu_i k 1) &&& 1431655765)) &&& 858993459) + ((zu_i (k - ((zu_i k 1) &&& 1431655765)) 2) &&& 858993459)) + (zu_i (((k - ((zu_i k 1) &&& 1431655765)) &&& 858993459) + ((zu_i (k - ((zu_i k 1) &&& 1431655765)) 2) &&& 858993459)) 4)) &&& 252645135) 8)) + (zu_i ((((((k - ((zu_i k 1) &&& 1431655765)) &&& 858993459) + ((zu_i (k - ((zu_i k 1) &&& 1431655765)) 2) &&& 858993459)) + (zu_i (((k - ((zu_i k 1) &&& 1431655765)) &&& 858993459) + ((zu_i (k - ((zu_i k 1) &&& 1431655765)) 2) &&& 858993459)) 4)) &&& 252645135) + (zu_i (((((k - ((zu_i k 1) &&& 1431655765)) &&& 858993459) + ((zu_i (k - ((zu_i k 1) &&& 1431655765)) 2) &&& 858993459)) + (zu_i (((k - ((zu_i k 1) &&& 1431655765)) &&& 858993459) + ((zu_i (k - ((zu_i k 1) &&& 1431655765)) 2) &&& 858993459)) 4)) &&& 252645135) 8)) 16)) &&& 63)) hx hb hr (fun t ht hW => ⟨_, rfl, rfl, ht⟩) (fun _ hq => by cases hq) d_JI_bitCount_52
def f_JL_bitCount (x : Int64) : Option (Int32) :=
  some (((((((((x - ((zu_l x 1) &&& 6148914691236517205)) &&& 3689348814741910323) + ((zu_l (x - ((zu_l x 1) &&& 6148914691236517205)) 2) &&& 3689348814741910323)) + (zu_l (((x - ((zu_l x 1) &&& 6148914691236517205)) &&& 3689348814741910323) + ((zu_l (x - ((zu_l x 1) &&& 6148914691236517205)) 2) &&& 3689348814741910323)) 4)) &&& 1085102592571150095) + (zu_l (((((x - ((zu_l x 1) &&& 6148914691236517205)) &&& 3689348814741910323) + ((zu_l (x - ((zu_l x 1) &&& 6148914691236517205)) 2) &&& 3689348814741910323)) + (zu_l (((x - ((zu_l x 1) &&& 6148914691236517205)) &&& 3689348814741910323) + ((zu_l (x - ((zu_l x 1) &&& 6148914691236517205)) 2) &&& 3689348814741910323)) 4)) &&& 1085102592571150095) 8)) + (zu_l ((((((x - ((zu_l x 1) &&& 6148914691236517205)) &&& 3689348814741910323) + ((zu_l (x - ((zu_l x 1) &&& 6148914691236517205)) 2) &&& 3689348814741910323)) + (zu_l (((x - ((zu_l x 1) &&& 6148914691236517205)) &&& 3689348814741910323) + ((zu_l (x - ((zu_l x 1) &&& 6148914691236517205)) 2) &&& 3689348814741910323)) 4)) &&& 1085102592571150095) + (zu_l (((((x - ((zu_l x 1) &&& 6148914691236517205)) &&& 3689348814741910323) + ((zu_l (x - ((zu_l x 1) &&& 6148914691236517205)) 2) &&& 3689348814741910323)) + (zu_l (((x - ((zu_l x 1) &&& 6148914691236517205)) &&& 3689348814741910323) + ((zu_l (x - ((zu_l x 1) &&& 6148914691236517205)) 2) &&& 3689348814741910323)) 4)) &&& 1085102592571150095) 8)) 16)) + (zu_l (((((((x - ((zu_l x 1) &&& 6148914691236517205)) &&& 3689348814741910323) + ((zu_l (x - ((zu_l x 1) &&& 6148914691236517205)) 2) &&& 3689348814741910323)) + (zu_l (((x - ((zu_l x 1) &&& 6148914691236517205)) &&& 3689348814741910323) + ((zu_l (x - ((zu_l x 1) &&& 6148914691236517205)) 2) &&& 3689348814741910323)) 4)) &&& 1085102592571150095) + (zu_l (((((x - ((zu_l x 1) &&& 6148914691236517205)) &&& 3689348814741910323) + ((zu_l (x - ((zu_l x 1) &&& 6148914691236517205)) 2) &&& 3689348814741910323)) + (zu_l (((x - ((zu_l x 1) &&& 6148914691236517205)) &&& 3689348814741910323) + ((zu_l (x - ((zu_l x 1) &&& 6148914691236517205)) 2) &&& 3689348814741910323)) 4)) &&& 1085102592571150095) 8)) + (zu_l ((((((x - ((zu_l x 1) &&& 6148914691236517205)) &&& 3689348814741910323) + ((zu_l (x - ((zu_l x 1) &&& 6148914691236517205)) 2) &&& 3689348814741910323)) + (zu_l (((x - ((zu_l x 1) &&& 6148914691236517205)) &&& 3689348814741910323) + ((zu_l (x - ((zu_l x 1) &&& 6148914691236517205)) 2) &&& 3689348814741910323)) 4)) &&& 1085102592571150095) + (zu_l (((((x - ((zu_l x 1) &&& 6148914691236517205)) &&& 3689348814741910323) + ((zu_l (x - ((zu_l x 1) &&& 6148914691236517205)) 2) &&& 3689348814741910323)) + (zu_l (((x - ((zu_l x 1) &&& 6148914691236517205)) &&& 3689348814741910323) + ((zu_l (x - ((zu_l x 1) &&& 6148914691236517205)) 2) &&& 3689348814741910323)) 4)) &&& 1085102592571150095) 8)) 16)) 32)).toInt32 &&& 127)
set_option maxHeartbeats 4000000 in
set_option maxRecDepth 100000 in
theorem c_JL_bitCount (l : Launch) (D : va_G) (tys : List (ClassId × FieldType)) (x : Int64) (v : Int32) (hres : f_JL_bitCount x = some v) : Met l y_JL_bitCount w_JL_bitCount ({ frames := 0, cells := 0, slots := 0, locals := 0 } : Room) (va_Pc ([.long x]) (zro D tys ([]))) (vp_Si (fun r : Int32 => r = v)) 0 0 (fun _ => False) := by
  refine Met.ofW (cc := b_JL_bitCount) (maxL := 2) (ret := (some .int)) (by decide) rfl ?_
  intro p e s m args below meth c s₁ B hml hv
  obtain ⟨rfl, hP, hK, hN⟩ := hv
  have hx := B.exec
  have hb := B.bytes
  have hr := B.returns
  have hts : ∀ w ∈ zt, w.before ([.long x].toArray) s = true := fun w h => atoms_spec (ws := w_JL_bitCount) B.pre w (List.mem_cons_of_mem _ h)
  have hown : s.vm.findClass R_JL = some m.cls := findClass_of_methodNamed B.named
  have hlocks := B.notSynchronized
  have hl := lv_entry ([.long x]) (n := 2) (Nat.le_of_ble_eq_true rfl)
  rw [lg_entry_eq]
  generalize (lg_sl ([.long x]) ++ List.replicate (2 - (lg_sl ([.long x])).length) Slot.unset).toArray = ls at hl ⊢
  have hl : lv_has ls 2 [(0, .long x)] := hl
  unfold f_JL_bitCount at hres
  refine lv_lload_n hx hb d_JL_bitCount_0 rfl (lv_at hl 0 rfl) ?_
  refine lv_lload_n hx hb d_JL_bitCount_1 rfl (lv_at hl 0 rfl) ?_
  refine lv_iconst (v := 1) hx hb d_JL_bitCount_2 (by decide) ?_
  refine lv_lushr (v := (zu_l x 1)) hx hb d_JL_bitCount_3 rfl ?_
  refine lv_ldc2 (v := 6148914691236517205) hx hb hown (hts _ k_388) d_JL_bitCount_4 ?_
  refine lv_land hx hb d_JL_bitCount_7 ?_
  refine lv_lsub hx hb d_JL_bitCount_8 ?_
  refine lv_lstore_n (lv' := [(0, .long (x - ((zu_l x 1) &&& 6148914691236517205)))]) hx hb d_JL_bitCount_9 rfl hl (by decide) rfl (fun ls hl => ?_)
  refine lv_lload_n hx hb d_JL_bitCount_10 rfl (lv_at hl 0 rfl) ?_
  refine lv_ldc2 (v := 3689348814741910323) hx hb hown (hts _ k_389) d_JL_bitCount_11 ?_
  refine lv_land hx hb d_JL_bitCount_14 ?_
  refine lv_lload_n hx hb d_JL_bitCount_15 rfl (lv_at hl 0 rfl) ?_
  refine lv_iconst (v := 2) hx hb d_JL_bitCount_16 (by decide) ?_
  refine lv_lushr (v := (zu_l (x - ((zu_l x 1) &&& 6148914691236517205)) 2)) hx hb d_JL_bitCount_17 rfl ?_
  refine lv_ldc2 (v := 3689348814741910323) hx hb hown (hts _ k_389) d_JL_bitCount_18 ?_
  refine lv_land hx hb d_JL_bitCount_21 ?_
  refine lv_ladd hx hb d_JL_bitCount_22 ?_
  refine lv_lstore_n (lv' := [(0, .long (((x - ((zu_l x 1) &&& 6148914691236517205)) &&& 3689348814741910323) + ((zu_l (x - ((zu_l x 1) &&& 6148914691236517205)) 2) &&& 3689348814741910323)))]) hx hb d_JL_bitCount_23 rfl hl (by decide) rfl (fun ls hl => ?_)
  refine lv_lload_n hx hb d_JL_bitCount_24 rfl (lv_at hl 0 rfl) ?_
  refine lv_lload_n hx hb d_JL_bitCount_25 rfl (lv_at hl 0 rfl) ?_
  refine lv_iconst (v := 4) hx hb d_JL_bitCount_26 (by decide) ?_
  refine lv_lushr (v := (zu_l (((x - ((zu_l x 1) &&& 6148914691236517205)) &&& 3689348814741910323) + ((zu_l (x - ((zu_l x 1) &&& 6148914691236517205)) 2) &&& 3689348814741910323)) 4)) hx hb d_JL_bitCount_27 rfl ?_
  refine lv_ladd hx hb d_JL_bitCount_28 ?_
  refine lv_ldc2 (v := 1085102592571150095) hx hb hown (hts _ k_390) d_JL_bitCount_29 ?_
  refine lv_land hx hb d_JL_bitCount_32 ?_
  refine lv_lstore_n (lv' := [(0, .long (((((x - ((zu_l x 1) &&& 6148914691236517205)) &&& 3689348814741910323) + ((zu_l (x - ((zu_l x 1) &&& 6148914691236517205)) 2) &&& 3689348814741910323)) + (zu_l (((x - ((zu_l x 1) &&& 6148914691236517205)) &&& 3689348814741910323) + ((zu_l (x - ((zu_l x 1) &&& 6148914691236517205)) 2) &&& 3689348814741910323)) 4)) &&& 1085102592571150095))]) hx hb d_JL_bitCount_33 rfl hl (by decide) rfl (fun ls hl => ?_)
  refine lv_lload_n hx hb d_JL_bitCount_34 rfl (lv_at hl 0 rfl) ?_
  refine lv_lload_n hx hb d_JL_bitCount_35 rfl (lv_at hl 0 rfl) ?_
  refine lv_bipush (v := 8) hx hb d_JL_bitCount_36 (by decide) ?_
  refine lv_lushr (v := (zu_l (((((x - ((zu_l x 1) &&& 6148914691236517205)) &&& 3689348814741910323) + ((zu_l (x - ((zu_l x 1) &&& 6148914691236517205)) 2) &&& 3689348814741910323)) + (zu_l (((x - ((zu_l x 1) &&& 6148914691236517205)) &&& 3689348814741910323) + ((zu_l (x - ((zu_l x 1) &&& 6148914691236517205)) 2) &&& 3689348814741910323)) 4)) &&& 1085102592571150095) 8)) hx hb d_JL_bitCount_38 rfl ?_
  refine lv_ladd hx hb d_JL_bitCount_39 ?_
  refine lv_lstore_n (lv' := [(0, .long ((((((x - ((zu_l x 1) &&& 6148914691236517205)) &&& 3689348814741910323) + ((zu_l (x - ((zu_l x 1) &&& 6148914691236517205)) 2) &&& 3689348814741910323)) + (zu_l (((x - ((zu_l x 1) &&& 6148914691236517205)) &&& 3689348814741910323) + ((zu_l (x - ((zu_l x 1) &&& 6148914691236517205)) 2) &&& 3689348814741910323)) 4)) &&& 1085102592571150095) + (zu_l (((((x - ((zu_l x 1) &&& 6148914691236517205)) &&& 3689348814741910323) + ((zu_l (x - ((zu_l x 1) &&& 6148914691236517205)) 2) &&& 3689348814741910323)) + (zu_l (((x - ((zu_l x 1) &&& 6148914691236517205)) &&& 3689348814741910323) + ((zu_l (x - ((zu_l x 1) &&& 6148914691236517205)) 2) &&& 3689348814741910323)) 4)) &&& 1085102592571150095) 8)))]) hx hb d_JL_bitCount_40 rfl hl (by decide) rfl (fun ls hl => ?_)
  refine lv_lload_n hx hb d_JL_bitCount_41 rfl (lv_at hl 0 rfl) ?_
  refine lv_lload_n hx hb d_JL_bitCount_42 rfl (lv_at hl 0 rfl) ?_
  refine lv_bipush (v := 16) hx hb d_JL_bitCount_43 (by decide) ?_
  refine lv_lushr (v := (zu_l ((((((x - ((zu_l x 1) &&& 6148914691236517205)) &&& 3689348814741910323) + ((zu_l (x - ((zu_l x 1) &&& 6148914691236517205)) 2) &&& 3689348814741910323)) + (zu_l (((x - ((zu_l x 1) &&& 6148914691236517205)) &&& 3689348814741910323) + ((zu_l (x - ((zu_l x 1) &&& 6148914691236517205)) 2) &&& 3689348814741910323)) 4)) &&& 1085102592571150095) + (zu_l (((((x - ((zu_l x 1) &&& 6148914691236517205)) &&& 3689348814741910323) + ((zu_l (x - ((zu_l x 1) &&& 6148914691236517205)) 2) &&& 3689348814741910323)) + (zu_l (((x - ((zu_l x 1) &&& 6148914691236517205)) &&& 3689348814741910323) + ((zu_l (x - ((zu_l x 1) &&& 6148914691236517205)) 2) &&& 3689348814741910323)) 4)) &&& 1085102592571150095) 8)) 16)) hx hb d_JL_bitCount_45 rfl ?_
  refine lv_ladd hx hb d_JL_bitCount_46 ?_
  refine lv_lstore_n (lv' := [(0, .long (((((((x - ((zu_l x 1) &&& 6148914691236517205)) &&& 3689348814741910323) + ((zu_l (x - ((zu_l x 1) &&& 6148914691236517205)) 2) &&& 3689348814741910323)) + (zu_l (((x - ((zu_l x 1) &&& 6148914691236517205)) &&& 3689348814741910323) + ((zu_l (x - ((zu_l x 1) &&& 6148914691236517205)) 2) &&& 3689348814741910323)) 4)) &&& 1085102592571150095) + (zu_l (((((x - ((zu_l x 1) &&& 6148914691236517205)) &&& 3689348814741910323) + ((zu_l (x - ((zu_l x 1) &&& 6148914691236517205)) 2) &&& 3689348814741910323)) + (zu_l (((x - ((zu_l x 1) &&& 6148914691236517205)) &&& 3689348814741910323) + ((zu_l (x - ((zu_l x 1) &&& 6148914691236517205)) 2) &&& 3689348814741910323)) 4)) &&& 1085102592571150095) 8)) + (zu_l ((((((x - ((zu_l x 1) &&& 6148914691236517205)) &&& 3689348814741910323) + ((zu_l (x - ((zu_l x 1) &&& 6148914691236517205)) 2) &&& 3689348814741910323)) + (zu_l (((x - ((zu_l x 1) &&& 6148914691236517205)) &&& 3689348814741910323) + ((zu_l (x - ((zu_l x 1) &&& 6148914691236517205)) 2) &&& 3689348814741910323)) 4)) &&& 1085102592571150095) + (zu_l (((((x - ((zu_l x 1) &&& 6148914691236517205)) &&& 3689348814741910323) + ((zu_l (x - ((zu_l x 1) &&& 6148914691236517205)) 2) &&& 3689348814741910323)) + (zu_l (((x - ((zu_l x 1) &&& 6148914691236517205)) &&& 3689348814741910323) + ((zu_l (x - ((zu_l x 1) &&& 6148914691236517205)) 2) &&& 3689348814741910323)) 4)) &&& 1085102592571150095) 8)) 16)))]) hx hb d_JL_bitCount_47 rfl hl (by decide) rfl (fun ls hl => ?_)
  refine lv_lload_n hx hb d_JL_bitCount_48 rfl (lv_at hl 0 rfl) ?_
  refine lv_lload_n hx hb d_JL_bitCount_49 rfl (lv_at hl 0 rfl) ?_
  refine lv_bipush (v := 32) hx hb d_JL_bitCount_50 (by decide) ?_
  refine lv_lushr (v := (zu_l (((((((x - ((zu_l x 1) &&& 6148914691236517205)) &&& 3689348814741910323) + ((zu_l (x - ((zu_l x 1) &&& 6148914691236517205)) 2) &&& 3689348814741910323)) + (zu_l (((x - ((zu_l x 1) &&& 6148914691236517205)) &&& 3689348814741910323) + ((zu_l (x - ((zu_l x 1) &&& 6148914691236517205)) 2) &&& 3689348814741910323)) 4)) &&& 1085102592571150095) + (zu_l (((((x - ((zu_l x 1) &&& 6148914691236517205)) &&& 3689348814741910323) + ((zu_l (x - ((zu_l x 1) &&& 6148914691236517205)) 2) &&& 3689348814741910323)) + (zu_l (((x - ((zu_l x 1) &&& 6148914691236517205)) &&& 3689348814741910323) + ((zu_l (x - ((zu_l x 1) &&& 6148914691236517205)) 2) &&& 3689348814741910323)) 4)) &&& 1085102592571150095) 8)) + (zu_l ((((((x - ((zu_l x 1) &&& 6148914691236517205)) &&& 3689348814741910323) + ((zu_l (x - ((zu_l x 1) &&& 6148914691236517205)) 2) &&& 3689348814741910323)) + (zu_l (((x - ((zu_l x 1) &&& 6148914691236517205)) &&& 3689348814741910323) + ((zu_l (x - ((zu_l x 1) &&& 6148914691236517205)) 2) &&& 3689348814741910323)) 4)) &&& 1085102592571150095) + (zu_l (((((x - ((zu_l x 1) &&& 6148914691236517205)) &&& 3689348814741910323) + ((zu_l (x - ((zu_l x 1) &&& 6148914691236517205)) 2) &&& 3689348814741910323)) + (zu_l (((x - ((zu_l x 1) &&& 6148914691236517205)) &&& 3689348814741910323) + ((zu_l (x - ((zu_l x 1) &&& 6148914691236517205)) 2) &&& 3689348814741910323)) 4)) &&& 1085102592571150095) 8)) 16)) 32)) hx hb d_JL_bitCount_52 rfl ?_
  refine lv_ladd hx hb d_JL_bitCount_53 ?_
  refine lv_lstore_n (lv' := [(0, .long ((((((((x - ((zu_l x 1) &&& 6148914691236517205)) &&& 3689348814741910323) + ((zu_l (x - ((zu_l x 1) &&& 6148914691236517205)) 2) &&& 3689348814741910323)) + (zu_l (((x - ((zu_l x 1) &&& 6148914691236517205)) &&& 3689348814741910323) + ((zu_l (x - ((zu_l x 1) &&& 6148914691236517205)) 2) &&& 3689348814741910323)) 4)) &&& 1085102592571150095) + (zu_l (((((x - ((zu_l x 1) &&& 6148914691236517205)) &&& 3689348814741910323) + ((zu_l (x - ((zu_l x 1) &&& 6148914691236517205)) 2) &&& 3689348814741910323)) + (zu_l (((x - ((zu_l x 1) &&& 6148914691236517205)) &&& 3689348814741910323) + ((zu_l (x - ((zu_l x 1) &&& 6148914691236517205)) 2) &&& 3689348814741910323)) 4)) &&& 1085102592571150095) 8)) + (zu_l ((((((x - ((zu_l x 1) &&& 6148914691236517205)) &&& 3689348814741910323) + ((zu_l (x - ((zu_l x 1) &&& 6148914691236517205)) 2) &&& 3689348814741910323)) + (zu_l (((x - ((zu_l x 1) &&& 6148914691236517205)) &&& 3689348814741910323) + ((zu_l (x - ((zu_l x 1) &&& 6148914691236517205)) 2) &&& 3689348814741910323)) 4)) &&& 1085102592571150095) + (zu_l (((((x - ((zu_l x 1) &&& 6148914691236517205)) &&& 3689348814741910323) + ((zu_l (x - ((zu_l x 1) &&& 6148914691236517205)) 2) &&& 3689348814741910323)) + (zu_l (((x - ((zu_l x 1) &&& 6148914691236517205)) &&& 3689348814741910323) + ((zu_l (x - ((zu_l x 1) &&& 6148914691236517205)) 2) &&& 3689348814741910323)) 4)) &&& 1085102592571150095) 8)) 16)) + (zu_l (((((((x - ((zu_l x 1) &&& 6148914691236517205)) &&& 3689348814741910323) + ((zu_l (x - ((zu_l x 1) &&& 6148914691236517205)) 2) &&& 3689348814741910323)) + (zu_l (((x - ((zu_l x 1) &&& 6148914691236517205)) &&& 3689348814741910323) + ((zu_l (x - ((zu_l x 1) &&& 6148914691236517205)) 2) &&& 3689348814741910323)) 4)) &&& 1085102592571150095) + (zu_l (((((x - ((zu_l x 1) &&& 6148914691236517205)) &&& 3689348814741910323) + ((zu_l (x - ((zu_l x 1) &&& 6148914691236517205)) 2) &&& 3689348814741910323)) + (zu_l (((x - ((zu_l x 1) &&& 6148914691236517205)) &&& 3689348814741910323) + ((zu_l (x - ((zu_l x 1) &&& 6148914691236517205)) 2) &&& 3689348814741910323)) 4)) &&& 1085102592571150095) 8)) + (zu_l ((((((x - ((zu_l x 1) &&& 6148914691236517205)) &&& 3689348814741910323) + ((zu_l (x - ((zu_l x 1) &&& 6148914691236517205)) 2) &&& 3689348814741910323)) + (zu_l (((x - ((zu_l x 1) &&& 6148914691236517205)) &&& 3689348814741910323) + ((zu_l (x - ((zu_l x 1) &&& 6148914691236517205)) 2) &&& 3689348814741910323)) 4)) &&& 1085102592571150095) + (zu_l (((((x - ((zu_l x 1) &&& 6148914691236517205)) &&& 3689348814741910323) + ((zu_l (x - ((zu_l x 1) &&& 6148914691236517205)) 2) &&& 3689348814741910323)) + (zu_l (((x - ((zu_l x 1) &&& 6148914691236517205)) &&& 3689348814741910323) + ((zu_l (x - ((zu_l x 1) &&& 6148914691236517205)) 2) &&& 3689348814741910323)) 4)) &&& 1085102592571150095) 8)) 16)) 32)))]) hx hb d_JL_bitCount_54 rfl hl (by decide) rfl (fun ls hl => ?_)
  refine lv_lload_n hx hb d_JL_bitCount_55 rfl (lv_at hl 0 rfl) ?_
  refine lv_l2i (v := ((((((((x - ((zu_l x 1) &&& 6148914691236517205)) &&& 3689348814741910323) + ((zu_l (x - ((zu_l x 1) &&& 6148914691236517205)) 2) &&& 3689348814741910323)) + (zu_l (((x - ((zu_l x 1) &&& 6148914691236517205)) &&& 3689348814741910323) + ((zu_l (x - ((zu_l x 1) &&& 6148914691236517205)) 2) &&& 3689348814741910323)) 4)) &&& 1085102592571150095) + (zu_l (((((x - ((zu_l x 1) &&& 6148914691236517205)) &&& 3689348814741910323) + ((zu_l (x - ((zu_l x 1) &&& 6148914691236517205)) 2) &&& 3689348814741910323)) + (zu_l (((x - ((zu_l x 1) &&& 6148914691236517205)) &&& 3689348814741910323) + ((zu_l (x - ((zu_l x 1) &&& 6148914691236517205)) 2) &&& 3689348814741910323)) 4)) &&& 1085102592571150095) 8)) + (zu_l ((((((x - ((zu_l x 1) &&& 6148914691236517205)) &&& 3689348814741910323) + ((zu_l (x - ((zu_l x 1) &&& 6148914691236517205)) 2) &&& 3689348814741910323)) + (zu_l (((x - ((zu_l x 1) &&& 6148914691236517205)) &&& 3689348814741910323) + ((zu_l (x - ((zu_l x 1) &&& 6148914691236517205)) 2) &&& 3689348814741910323)) 4)) &&& 1085102592571150095) + (zu_l (((((x - ((zu_l x 1) &&& 6148914691236517205)) &&& 3689348814741910323) + ((zu_l (x - ((zu_l x 1) &&& 6148914691236517205)) 2) &&& 3689348814741910323)) + (zu_l (((x - ((zu_l x 1) &&& 6148914691236517205)) &&& 3689348814741910323) + ((zu_l (x - ((zu_l x 1) &&& 6148914691236517205)) 2) &&& 3689348814741910323)) 4)) &&& 1085102592571150095) 8)) 16)) + (zu_l (((((((x - ((zu_l x 1) &&& 6148914691236517205)) &&& 3689348814741910323) + ((zu_l (x - ((zu_l x 1) &&& 6148914691236517205)) 2) &&& 3689348814741910323)) + (zu_l (((x - ((zu_l x 1) &&& 6148914691236517205)) &&& 3689348814741910323) + ((zu_l (x - ((zu_l x 1) &&& 6148914691236517205)) 2) &&& 3689348814741910323)) 4)) &&& 1085102592571150095) + (zu_l (((((x - ((zu_l x 1) &&& 6148914691236517205)) &&& 3689348814741910323) + ((zu_l (x - ((zu_l x 1) &&& 6148914691236517205)) 2) &&& 3689348814741910323)) + (zu_l (((x - ((zu_l x 1) &&& 6148914691236517205)) &&& 3689348814741910323) + ((zu_l (x - ((zu_l x 1) &&& 6148914691236517205)) 2) &&& 3689348814741910323)) 4)) &&& 1085102592571150095) 8)) + (zu_l ((((((x - ((zu_l x 1) &&& 6148914691236517205)) &&& 3689348814741910323) + ((zu_l (x - ((zu_l x 1) &&& 6148914691236517205)) 2) &&& 3689348814741910323)) + (zu_l (((x - ((zu_l x 1) &&& 6148914691236517205)) &&& 3689348814741910323) + ((zu_l (x - ((zu_l x 1) &&& 6148914691236517205)) 2) &&& 3689348814741910323)) 4)) &&& 1085102592571150095) + (zu_l (((((x - ((zu_l x 1) &&& 6148914691236517205)) &&& 3689348814741910323) + ((zu_l (x - ((zu_l x 1) &&& 6148914691236517205)) 2) &&& 3689348814741910323)) + (zu_l (((x - ((zu_l x 1) &&& 6148914691236517205)) &&& 3689348814741910323) + ((zu_l (x - ((zu_l x 1) &&& 6148914691236517205)) 2) &&& 3689348814741910323)) 4)) &&& 1085102592571150095) 8)) 16)) 32)).toInt32) hx hb d_JL_bitCount_56 rfl ?_
  refine lv_bipush (v := 127) hx hb d_JL_bitCount_57 (by decide) ?_
  refine lv_iand hx hb d_JL_bitCount_59 ?_
  obtain rfl := Option.some.inj hres
  exact W.iret (v := (((((((((x - ((zu_l x 1) &&& 6148914691236517205)) &&& 3689348814741910323) + ((zu_l (x - ((zu_l x 1) &&& 6148914691236517205)) 2) &&& 3689348814741910323)) + (zu_l (((x - ((zu_l x 1) &&& 6148914691236517205)) &&& 3689348814741910323) + ((zu_l (x - ((zu_l x 1) &&& 6148914691236517205)) 2) &&& 3689348814741910323)) 4)) &&& 1085102592571150095) + (zu_l (((((x - ((zu_l x 1) &&& 6148914691236517205)) &&& 3689348814741910323) + ((zu_l (x - ((zu_l x 1) &&& 6148914691236517205)) 2) &&& 3689348814741910323)) + (zu_l (((x - ((zu_l x 1) &&& 6148914691236517205)) &&& 3689348814741910323) + ((zu_l (x - ((zu_l x 1) &&& 6148914691236517205)) 2) &&& 3689348814741910323)) 4)) &&& 1085102592571150095) 8)) + (zu_l ((((((x - ((zu_l x 1) &&& 6148914691236517205)) &&& 3689348814741910323) + ((zu_l (x - ((zu_l x 1) &&& 6148914691236517205)) 2) &&& 3689348814741910323)) + (zu_l (((x - ((zu_l x 1) &&& 6148914691236517205)) &&& 3689348814741910323) + ((zu_l (x - ((zu_l x 1) &&& 6148914691236517205)) 2) &&& 3689348814741910323)) 4)) &&& 1085102592571150095) + (zu_l (((((x - ((zu_l x 1) &&& 6148914691236517205)) &&& 3689348814741910323) + ((zu_l (x - ((zu_l x 1) &&& 6148914691236517205)) 2) &&& 3689348814741910323)) + (zu_l (((x - ((zu_l x 1) &&& 6148914691236517205)) &&& 3689348814741910323) + ((zu_l (x - ((zu_l x 1) &&& 6148914691236517205)) 2) &&& 3689348814741910323)) 4)) &&& 1085102592571150095) 8)) 16)) + (zu_l (((((((x - ((zu_l x 1) &&& 6148914691236517205)) &&& 3689348814741910323) + ((zu_l (x - ((zu_l x 1) &&& 6148914691236517205)) 2) &&& 3689348814741910323)) + (zu_l (((x - ((zu_l x 1) &&& 6148914691236517205)) &&& 3689348814741910323) + ((zu_l (x - ((zu_l x 1) &&& 6148914691236517205)) 2) &&& 3689348814741910323)) 4)) &&& 1085102592571150095) + (zu_l (((((x - ((zu_l x 1) &&& 6148914691236517205)) &&& 3689348814741910323) + ((zu_l (x - ((zu_l x 1) &&& 6148914691236517205)) 2) &&& 3689348814741910323)) + (zu_l (((x - ((zu_l x 1) &&& 6148914691236517205)) &&& 3689348814741910323) + ((zu_l (x - ((zu_l x 1) &&& 6148914691236517205)) 2) &&& 3689348814741910323)) 4)) &&& 1085102592571150095) 8)) + (zu_l ((((((x - ((zu_l x 1) &&& 6148914691236517205)) &&& 3689348814741910323) + ((zu_l (x - ((zu_l x 1) &&& 6148914691236517205)) 2) &&& 3689348814741910323)) + (zu_l (((x - ((zu_l x 1) &&& 6148914691236517205)) &&& 3689348814741910323) + ((zu_l (x - ((zu_l x 1) &&& 6148914691236517205)) 2) &&& 3689348814741910323)) 4)) &&& 1085102592571150095) + (zu_l (((((x - ((zu_l x 1) &&& 6148914691236517205)) &&& 3689348814741910323) + ((zu_l (x - ((zu_l x 1) &&& 6148914691236517205)) 2) &&& 3689348814741910323)) + (zu_l (((x - ((zu_l x 1) &&& 6148914691236517205)) &&& 3689348814741910323) + ((zu_l (x - ((zu_l x 1) &&& 6148914691236517205)) 2) &&& 3689348814741910323)) 4)) &&& 1085102592571150095) 8)) 16)) 32)).toInt32 &&& 127)) hx hb hr (fun t ht hW => ⟨_, rfl, rfl, ht⟩) (fun _ hq => by cases hq) d_JL_bitCount_60

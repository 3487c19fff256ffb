def zbs (q : Nat → Nat) : Nat → Option Nat := fun k => match k with
  | 0 => some (q 10)
  | 1 => some (q 11)
  | 2 => some (q 12)
  | 3 => some (q 13)
  | 4 => some (q 14)
  | _ => none
abbrev VSt : Type := Int32 × Int32 × (Nat → Option Nat) × (Nat → Int32) × (Nat → Int32) × (Nat → Int32) × TreeV × (Nat → Int32) × TreeV × TreeV × TreeV × TreeV × TreeV
/-- the commits and their trees, by their addresses -/
def zpool (pl : va_W) (cm : Nat → Option ComV) (tm : Nat → Option TreeV) : Prop := (∀ (y : Nat) (c : ComV), cm y = some c → ∃ k : Nat, pl[k]? = some (y, zcC c)) ∧ (∀ (y : Nat) (c : TreeV), tm y = some c → ∃ k : Nat, pl[k]? = some (y, zcT c))
abbrev zX (q : Nat → Nat) (cM cH cW cL cB cS : ClassId) (em : TreeV) (σ : VSt) : va_W := [(q 0, .inr (3, [.ref (q 1), .int σ.1, .ref (q 2), .ref (q 3), .ref (q 4), .int σ.2.1, .ref (q 5), .ref (q 7), .ref (q 6), .ref (q 9)])), (q 1, .inl (cM, 60, .inr (.inr (.inr (.inr σ.2.2.1))))), (q 2, .inl (cH, 4, .inl σ.2.2.2.1)), (q 3, .inl (cW, 4, .inl σ.2.2.2.2.1)), (q 4, .inl (cL, 100, .inl σ.2.2.2.2.2.1)), (q 5, zcT em), (q 6, zcT σ.2.2.2.2.2.2.1), (q 7, .inr (2, [.ref (q 8)])), (q 8, .inl (cB, 16, .inl σ.2.2.2.2.2.2.2.1)), (q 9, .inl (cS, 5, .inr (.inr (.inr (.inr (zbs q)))))), (q 10, zcT σ.2.2.2.2.2.2.2.2.1), (q 11, zcT σ.2.2.2.2.2.2.2.2.2.1), (q 12, zcT σ.2.2.2.2.2.2.2.2.2.2.1), (q 13, zcT σ.2.2.2.2.2.2.2.2.2.2.2.1), (q 14, zcT σ.2.2.2.2.2.2.2.2.2.2.2.2)]
def f_V_isCommit (em : TreeV) (cm : Nat → Option ComV) (tm : Nat → Option TreeV) (σ : VSt) (k : Int32) : Option (Int32) :=
  if k < 0 then
    some 0
  else
    if σ.1 ≤ k then
      some 0
    else
      some 1
set_option maxHeartbeats 4000000 in
set_option maxRecDepth 100000 in
theorem c_V_isCommit (l : Launch) (D : va_G) (tys : List (ClassId × FieldType)) (q : Nat → Nat) (cM : ClassId) (cH : ClassId) (cW : ClassId) (cL : ClassId) (cB : ClassId) (cS : ClassId) (em : TreeV) (pl : va_W) (cm : Nat → Option ComV) (tm : Nat → Option TreeV) (hpl : zpool pl cm tm) (σ : VSt) (k : Int32) (v : Int32) (hres : f_V_isCommit em cm tm σ k = some v) : Met l y_V_isCommit w_V_isCommit ({ frames := 0, cells := 0, slots := 0, locals := 0 } : Room) (va_Pc ([.ref (q 0), .int k]) (zro D [(cM, .object R_C), (cH, .int), (cW, .boolean), (cL, .int), (cB, .int), (cS, .object R_T)] (zX q cM cH cW cL cB cS em σ ++ pl))) (vp_Si (fun r : Int32 => r = v)) 0 0 (fun _ => False) := by
  refine Met.ofW (cc := b_V_isCommit) (maxL := 2) (ret := (some .boolean)) (by decide) rfl ?_
  intro p e s m args below meth c s₁ B hml hv
  obtain ⟨rfl, hP, hK, hN⟩ := hv
  have hx := B.exec
  have hb := B.bytes
  have hr := B.returns
  have hts : ∀ w ∈ zt, w.before ([.ref (q 0), .int k].toArray) s = true := fun w h => atoms_spec (ws := w_V_isCommit) B.pre w (List.mem_cons_of_mem _ h)
  have hown : s.vm.findClass R_V = some m.cls := findClass_of_methodNamed B.named
  have hlocks := B.notSynchronized
  have hl := lv_entry ([.ref (q 0), .int k]) (n := 2) (Nat.le_of_ble_eq_true rfl)
  rw [lg_entry_eq]
  generalize (lg_sl ([.ref (q 0), .int k]) ++ List.replicate (2 - (lg_sl ([.ref (q 0), .int k])).length) Slot.unset).toArray = ls at hl ⊢
  have hl : lv_has ls 2 [(0, .ref (q 0)), (1, .int k)] := hl
  unfold f_V_isCommit at hres
  refine lv_iload_n hx hb d_V_isCommit_0 rfl (lv_at hl 1 rfl) ?_
  refine lv_if_lt (tgt := 16) hx hb d_V_isCommit_1 (by decide) (fun c_1 => ?_) (fun c_1 => ?_)
  · have hres := zi_p c_1 hres
    refine lv_iconst (v := 0) hx hb d_V_isCommit_16 (by decide) ?_
    obtain rfl := Option.some.inj hres
    exact W.zret (v := 0) (ty := .boolean) hx hb hr rfl (fun t ht hW => ⟨_, rfl, rfl, ht⟩) (fun _ hq => by cases hq) d_V_isCommit_17
  · have hres := zi_n c_1 hres
    refine lv_iload_n hx hb d_V_isCommit_4 rfl (lv_at hl 1 rfl) ?_
    refine lv_aload_n hx hb d_V_isCommit_5 rfl (lv_at hl 0 rfl) ?_
    refine va_get (D := D) (ci := 3) (v := .int σ.1) (C := R_V) (T := T_V) (N := 10) hx hb hts in_V hown hK hP (0) rfl rfl 1 (by decide) (hts _ k_137) (fun _ h9 => h9) rfl d_V_isCommit_6 ?_
    refine lv_icmp_ge (tgt := 16) hx hb d_V_isCommit_9 (by decide) (fun c_9 => ?_) (fun c_9 => ?_)
    · have hres := zi_p c_9 hres
      refine lv_iconst (v := 0) hx hb d_V_isCommit_16 (by decide) ?_
      obtain rfl := Option.some.inj hres
      exact W.zret (v := 0) (ty := .boolean) hx hb hr rfl (fun t ht hW => ⟨_, rfl, rfl, ht⟩) (fun _ hq => by cases hq) d_V_isCommit_17
    · have hres := zi_n c_9 hres
      refine lv_iconst (v := 1) hx hb d_V_isCommit_12 (by decide) ?_
      refine lv_goto (tgt := 17) hx hb d_V_isCommit_13 (by decide) ?_
      obtain rfl := Option.some.inj hres
      exact W.zret (v := 1) (ty := .boolean) hx hb hr rfl (fun t ht hW => ⟨_, rfl, rfl, ht⟩) (fun _ hq => by cases hq) d_V_isCommit_17
def f_V_commitAt (em : TreeV) (cm : Nat → Option ComV) (tm : Nat → Option TreeV) (σ : VSt) (k : Int32) : Option (Option Nat) :=
  Option.bind (f_V_isCommit em cm tm σ k) (fun v2 =>
    if v2 = 0 then
      some none
    else
      if zin k 60 then
        zo_m ((σ.2.2.1 k.toNatClampNeg)) (
          some none) (fun y_13 =>
          some (some y_13))
      else
        none)
set_option maxHeartbeats 4000000 in
set_option maxRecDepth 100000 in
theorem c_V_commitAt (l : Launch) (D : va_G) (tys : List (ClassId × FieldType)) (q : Nat → Nat) (cM : ClassId) (cH : ClassId) (cW : ClassId) (cL : ClassId) (cB : ClassId) (cS : ClassId) (em : TreeV) (pl : va_W) (cm : Nat → Option ComV) (tm : Nat → Option TreeV) (hpl : zpool pl cm tm) (σ : VSt) (k : Int32) (v : Option Nat) (hres : f_V_commitAt em cm tm σ k = some v) : Met l y_V_commitAt w_V_commitAt ({ frames := 1, cells := 0, slots := 0, locals := 21 } : Room) (va_Pc ([.ref (q 0), .int k]) (zro D [(cM, .object R_C), (cH, .int), (cW, .boolean), (cL, .int), (cB, .int), (cS, .object R_T)] (zX q cM cH cW cL cB cS em σ ++ pl))) (va_Sq (fun r => r = v)) 0 0 (fun _ => False) := by
  refine Met.ofW (cc := b_V_commitAt) (maxL := 2) (ret := (some (.object "MergeVault$Commit"))) (by decide) rfl ?_
  intro p e s m args below meth c s₁ B hml hv
  obtain ⟨rfl, hP, hK, hN⟩ := hv
  have hx := B.exec
  have hb := B.bytes
  have hr := B.returns
  have hts : ∀ w ∈ zt, w.before ([.ref (q 0), .int k].toArray) s = true := fun w h => atoms_spec (ws := w_V_commitAt) B.pre w (List.mem_cons_of_mem _ h)
  have hown : s.vm.findClass R_V = some m.cls := findClass_of_methodNamed B.named
  have hlocks := B.notSynchronized
  have hl := lv_entry ([.ref (q 0), .int k]) (n := 2) (Nat.le_of_ble_eq_true rfl)
  rw [lg_entry_eq]
  generalize (lg_sl ([.ref (q 0), .int k]) ++ List.replicate (2 - (lg_sl ([.ref (q 0), .int k])).length) Slot.unset).toArray = ls at hl ⊢
  have hl : lv_has ls 2 [(0, .ref (q 0)), (1, .int k)] := hl
  unfold f_V_commitAt at hres
  refine lv_aload_n hx hb d_V_commitAt_0 rfl (lv_at hl 0 rfl) ?_
  refine lv_iload_n hx hb d_V_commitAt_1 rfl (lv_at hl 1 rfl) ?_
  obtain ⟨v2, hc2, hres⟩ := zo_b hres
  refine vp_callSi (va_Run.run (va_runV (As := [.int k]) (rest := []) ⟨hx, hb, hml, hown, hts⟩ (c_V_isCommit l D [(cM, .object R_C), (cH, .int), (cW, .boolean), (cL, .int), (cB, .int), (cS, .object R_T)] q cM cH cW cL cB cS em pl cm tm hpl σ k v2 hc2) (cwV 1 hts (zg_V k_183 k_185 k_1 k_29 g_V_isCommit) rfl rfl rfl ⟨rfl, hd_V_isCommit⟩ ⟨Nat.le_of_ble_eq_true rfl, Nat.le_of_ble_eq_true rfl⟩) ⟨zro_b _, va_recv hK hP (q0 := 0) rfl rfl, zro_p hP hK hN _⟩ rfl rfl hl.1 rfl (lv_room (Nat.le_of_ble_eq_true rfl)) d_V_commitAt_2 ⟨Nat.zero_le _, Nat.zero_le _⟩)) (fun r_2 er_2 => ?_)
  have er_2 := er_2.symm
  subst er_2
  refine lv_if_eq (tgt := 17) hx hb d_V_commitAt_5 (by decide) (fun c_5 => ?_) (fun c_5 => ?_)
  · have hres := zi_p c_5 hres
    refine lv_null hx hb d_V_commitAt_17 ?_
    obtain rfl := Option.some.inj hres
    exact W.aret (v := .null) hx hb hr (Or.inl ⟨_, rfl⟩) (Or.inl rfl) (fun t ht hW => ⟨none, rfl, rfl, ht⟩) (fun _ hq => by cases hq) d_V_commitAt_18
  · have hres := zi_n c_5 hres
    refine lv_aload_n hx hb d_V_commitAt_8 rfl (lv_at hl 0 rfl) ?_
    refine va_get (D := D) (ci := 3) (v := .ref (q 1)) (C := R_V) (T := T_V) (N := 10) hx hb hts in_V hown hK hP (0) rfl rfl 0 (by decide) (hts _ k_136) (fun _ h9 => h9) rfl d_V_commitAt_9 ?_
    refine lv_iload_n hx hb d_V_commitAt_12 rfl (lv_at hl 1 rfl) ?_
    by_cases ck_13 : zin k 60
    · have hres := zi_p ck_13 hres
      refine va_aldq hx hb hK hP 1 0 rfl rfl ck_13 d_V_commitAt_13 ?_
      rcases hq_13 : (σ.2.2.1 k.toNatClampNeg) with _ | y_13
      · have hres := zo_n hq_13 hres
        refine lv_goto (tgt := 18) hx hb d_V_commitAt_14 (by decide) ?_
        obtain rfl := Option.some.inj hres
        exact W.aret (v := .null) hx hb hr (Or.inl ⟨_, rfl⟩) (Or.inl rfl) (fun t ht hW => ⟨none, rfl, rfl, ht⟩) (fun _ hq => by cases hq) d_V_commitAt_18
      · have hres := zo_s hq_13 hres
        refine lv_goto (tgt := 18) hx hb d_V_commitAt_14 (by decide) ?_
        obtain rfl := Option.some.inj hres
        exact W.aret (v := .ref y_13) hx hb hr (Or.inl ⟨_, rfl⟩) (Or.inr ⟨_, rfl⟩) (fun t ht hW => ⟨some y_13, rfl, rfl, ht⟩) (fun _ hq => by cases hq) d_V_commitAt_18
    · exact absurd (zi_n ck_13 hres) (by simp)
def f_V_commits (em : TreeV) (cm : Nat → Option ComV) (tm : Nat → Option TreeV) (σ : VSt) : Option (Int32) :=
  some σ.1
set_option maxHeartbeats 4000000 in
set_option maxRecDepth 100000 in
theorem c_V_commits (l : Launch) (D : va_G) (tys : List (ClassId × FieldType)) (q : Nat → Nat) (cM : ClassId) (cH : ClassId) (cW : ClassId) (cL : ClassId) (cB : ClassId) (cS : ClassId) (em : TreeV) (pl : va_W) (cm : Nat → Option ComV) (tm : Nat → Option TreeV) (hpl : zpool pl cm tm) (σ : VSt) (v : Int32) (hres : f_V_commits em cm tm σ = some v) : Met l y_V_commits w_V_commits ({ frames := 0, cells := 0, slots := 0, locals := 0 } : Room) (va_Pc ([.ref (q 0)]) (zro D [(cM, .object R_C), (cH, .int), (cW, .boolean), (cL, .int), (cB, .int), (cS, .object R_T)] (zX q cM cH cW cL cB cS em σ ++ pl))) (vp_Si (fun r : Int32 => r = v)) 0 0 (fun _ => False) := by
  refine Met.ofW (cc := b_V_commits) (maxL := 1) (ret := (some .int)) (by decide) rfl ?_
  intro p e s m args below meth c s₁ B hml hv
  obtain ⟨rfl, hP, hK, hN⟩ := hv
  have hx := B.exec
  have hb := B.bytes
  have hr := B.returns
  have hts : ∀ w ∈ zt, w.before ([.ref (q 0)].toArray) s = true := fun w h => atoms_spec (ws := w_V_commits) B.pre w (List.mem_cons_of_mem _ h)
  have hown : s.vm.findClass R_V = some m.cls := findClass_of_methodNamed B.named
  have hlocks := B.notSynchronized
  have hl := lv_entry ([.ref (q 0)]) (n := 1) (Nat.le_of_ble_eq_true rfl)
  rw [lg_entry_eq]
  generalize (lg_sl ([.ref (q 0)]) ++ List.replicate (1 - (lg_sl ([.ref (q 0)])).length) Slot.unset).toArray = ls at hl ⊢
  have hl : lv_has ls 1 [(0, .ref (q 0))] := hl
  unfold f_V_commits at hres
  refine lv_aload_n hx hb d_V_commits_0 rfl (lv_at hl 0 rfl) ?_
  refine va_get (D := D) (ci := 3) (v := .int σ.1) (C := R_V) (T := T_V) (N := 10) hx hb hts in_V hown hK hP (0) rfl rfl 1 (by decide) (hts _ k_137) (fun _ h9 => h9) rfl d_V_commits_1 ?_
  obtain rfl := Option.some.inj hres
  exact W.iret (v := σ.1) hx hb hr (fun t ht hW => ⟨_, rfl, rfl, ht⟩) (fun _ hq => by cases hq) d_V_commits_4
def f_V_events (em : TreeV) (cm : Nat → Option ComV) (tm : Nat → Option TreeV) (σ : VSt) : Option (Int32) :=
  some σ.2.1
set_option maxHeartbeats 4000000 in
set_option maxRecDepth 100000 in
theorem c_V_events (l : Launch) (D : va_G) (tys : List (ClassId × FieldType)) (q : Nat → Nat) (cM : ClassId) (cH : ClassId) (cW : ClassId) (cL : ClassId) (cB : ClassId) (cS : ClassId) (em : TreeV) (pl : va_W) (cm : Nat → Option ComV) (tm : Nat → Option TreeV) (hpl : zpool pl cm tm) (σ : VSt) (v : Int32) (hres : f_V_events em cm tm σ = some v) : Met l y_V_events w_V_events ({ frames := 0, cells := 0, slots := 0, locals := 0 } : Room) (va_Pc ([.ref (q 0)]) (zro D [(cM, .object R_C), (cH, .int), (cW, .boolean), (cL, .int), (cB, .int), (cS, .object R_T)] (zX q cM cH cW cL cB cS em σ ++ pl))) (vp_Si (fun r : Int32 => r = v)) 0 0 (fun _ => False) := by
  refine Met.ofW (cc := b_V_events) (maxL := 1) (ret := (some .int)) (by decide) rfl ?_
  intro p e s m args below meth c s₁ B hml hv
  obtain ⟨rfl, hP, hK, hN⟩ := hv
  have hx := B.exec
  have hb := B.bytes
  have hr := B.returns
  have hts : ∀ w ∈ zt, w.before ([.ref (q 0)].toArray) s = true := fun w h => atoms_spec (ws := w_V_events) B.pre w (List.mem_cons_of_mem _ h)
  have hown : s.vm.findClass R_V = some m.cls := findClass_of_methodNamed B.named
  have hlocks := B.notSynchronized
  have hl := lv_entry ([.ref (q 0)]) (n := 1) (Nat.le_of_ble_eq_true rfl)
  rw [lg_entry_eq]
  generalize (lg_sl ([.ref (q 0)]) ++ List.replicate (1 - (lg_sl ([.ref (q 0)])).length) Slot.unset).toArray = ls at hl ⊢
  have hl : lv_has ls 1 [(0, .ref (q 0))] := hl
  unfold f_V_events at hres
  refine lv_aload_n hx hb d_V_events_0 rfl (lv_at hl 0 rfl) ?_
  refine va_get (D := D) (ci := 3) (v := .int σ.2.1) (C := R_V) (T := T_V) (N := 10) hx hb hts in_V hown hK hP (0) rfl rfl 5 (by decide) (hts _ k_141) (fun _ h9 => h9) rfl d_V_events_1 ?_
  obtain rfl := Option.some.inj hres
  exact W.iret (v := σ.2.1) hx hb hr (fun t ht hW => ⟨_, rfl, rfl, ht⟩) (fun _ hq => by cases hq) d_V_events_4
def f_V_event (em : TreeV) (cm : Nat → Option ComV) (tm : Nat → Option TreeV) (σ : VSt) (k : Int32) : Option (Int32) :=
  if k < 0 then
    some (-1)
  else
    if σ.2.1 ≤ k then
      some (-1)
    else
      if zin k 100 then
        some (σ.2.2.2.2.2.1 k.toNatClampNeg)
      else
        none
set_option maxHeartbeats 4000000 in
set_option maxRecDepth 100000 in
theorem c_V_event (l : Launch) (D : va_G) (tys : List (ClassId × FieldType)) (q : Nat → Nat) (cM : ClassId) (cH : ClassId) (cW : ClassId) (cL : ClassId) (cB : ClassId) (cS : ClassId) (em : TreeV) (pl : va_W) (cm : Nat → Option ComV) (tm : Nat → Option TreeV) (hpl : zpool pl cm tm) (σ : VSt) (k : Int32) (v : Int32) (hres : f_V_event em cm tm σ k = some v) : Met l y_V_event w_V_event ({ frames := 0, cells := 0, slots := 0, locals := 0 } : Room) (va_Pc ([.ref (q 0), .int k]) (zro D [(cM, .object R_C), (cH, .int), (cW, .boolean), (cL, .int), (cB, .int), (cS, .object R_T)] (zX q cM cH cW cL cB cS em σ ++ pl))) (vp_Si (fun r : Int32 => r = v)) 0 0 (fun _ => False) := by
  refine Met.ofW (cc := b_V_event) (maxL := 2) (ret := (some .int)) (by decide) rfl ?_
  intro p e s m args below meth c s₁ B hml hv
  obtain ⟨rfl, hP, hK, hN⟩ := hv
  have hx := B.exec
  have hb := B.bytes
  have hr := B.returns
  have hts : ∀ w ∈ zt, w.before ([.ref (q 0), .int k].toArray) s = true := fun w h => atoms_spec (ws := w_V_event) B.pre w (List.mem_cons_of_mem _ h)
  have hown : s.vm.findClass R_V = some m.cls := findClass_of_methodNamed B.named
  have hlocks := B.notSynchronized
  have hl := lv_entry ([.ref (q 0), .int k]) (n := 2) (Nat.le_of_ble_eq_true rfl)
  rw [lg_entry_eq]
  generalize (lg_sl ([.ref (q 0), .int k]) ++ List.replicate (2 - (lg_sl ([.ref (q 0), .int k])).length) Slot.unset).toArray = ls at hl ⊢
  have hl : lv_has ls 2 [(0, .ref (q 0)), (1, .int k)] := hl
  unfold f_V_event at hres
  refine lv_iload_n hx hb d_V_event_0 rfl (lv_at hl 1 rfl) ?_
  refine lv_if_lt (tgt := 21) hx hb d_V_event_1 (by decide) (fun c_1 => ?_) (fun c_1 => ?_)
  · have hres := zi_p c_1 hres
    refine lv_iconst (v := (-1)) hx hb d_V_event_21 (by decide) ?_
    obtain rfl := Option.some.inj hres
    exact W.iret (v := (-1)) hx hb hr (fun t ht hW => ⟨_, rfl, rfl, ht⟩) (fun _ hq => by cases hq) d_V_event_22
  · have hres := zi_n c_1 hres
    refine lv_iload_n hx hb d_V_event_4 rfl (lv_at hl 1 rfl) ?_
    refine lv_aload_n hx hb d_V_event_5 rfl (lv_at hl 0 rfl) ?_
    refine va_get (D := D) (ci := 3) (v := .int σ.2.1) (C := R_V) (T := T_V) (N := 10) hx hb hts in_V hown hK hP (0) rfl rfl 5 (by decide) (hts _ k_141) (fun _ h9 => h9) rfl d_V_event_6 ?_
    refine lv_icmp_ge (tgt := 21) hx hb d_V_event_9 (by decide) (fun c_9 => ?_) (fun c_9 => ?_)
    · have hres := zi_p c_9 hres
      refine lv_iconst (v := (-1)) hx hb d_V_event_21 (by decide) ?_
      obtain rfl := Option.some.inj hres
      exact W.iret (v := (-1)) hx hb hr (fun t ht hW => ⟨_, rfl, rfl, ht⟩) (fun _ hq => by cases hq) d_V_event_22
    · have hres := zi_n c_9 hres
      refine lv_aload_n hx hb d_V_event_12 rfl (lv_at hl 0 rfl) ?_
      refine va_get (D := D) (ci := 3) (v := .ref (q 4)) (C := R_V) (T := T_V) (N := 10) hx hb hts in_V hown hK hP (0) rfl rfl 4 (by decide) (hts _ k_140) (fun _ h9 => h9) rfl d_V_event_13 ?_
      refine lv_iload_n hx hb d_V_event_16 rfl (lv_at hl 1 rfl) ?_
      by_cases ck_17 : zin k 100
      · have hres := zi_p ck_17 hres
        refine va_iald hx hb hK hP 4 3 rfl rfl ck_17 d_V_event_17 ?_
        refine lv_goto (tgt := 22) hx hb d_V_event_18 (by decide) ?_
        obtain rfl := Option.some.inj hres
        exact W.iret (v := (σ.2.2.2.2.2.1 k.toNatClampNeg)) hx hb hr (fun t ht hW => ⟨_, rfl, rfl, ht⟩) (fun _ hq => by cases hq) d_V_event_22
      · exact absurd (zi_n ck_17 hres) (by simp)
def f_V_head (em : TreeV) (cm : Nat → Option ComV) (tm : Nat → Option TreeV) (σ : VSt) (k : Int32) : Option (Int32) :=
  Option.bind (f_V_isBranch k) (fun v1 =>
    if v1 = 0 then
      some (-1)
    else
      if zin k 4 then
        if (σ.2.2.2.1 k.toNatClampNeg) = (-1) then
          some (-1)
        else
          if zin k 4 then
            some (σ.2.2.2.1 k.toNatClampNeg)
          else
            none
      else
        none)
set_option maxHeartbeats 4000000 in
set_option maxRecDepth 100000 in
theorem c_V_head (l : Launch) (D : va_G) (tys : List (ClassId × FieldType)) (q : Nat → Nat) (cM : ClassId) (cH : ClassId) (cW : ClassId) (cL : ClassId) (cB : ClassId) (cS : ClassId) (em : TreeV) (pl : va_W) (cm : Nat → Option ComV) (tm : Nat → Option TreeV) (hpl : zpool pl cm tm) (σ : VSt) (k : Int32) (v : Int32) (hres : f_V_head em cm tm σ k = some v) : Met l y_V_head w_V_head ({ frames := 1, cells := 0, slots := 0, locals := 20 } : Room) (va_Pc ([.ref (q 0), .int k]) (zro D [(cM, .object R_C), (cH, .int), (cW, .boolean), (cL, .int), (cB, .int), (cS, .object R_T)] (zX q cM cH cW cL cB cS em σ ++ pl))) (vp_Si (fun r : Int32 => r = v)) 0 0 (fun _ => False) := by
  refine Met.ofW (cc := b_V_head) (maxL := 2) (ret := (some .int)) (by decide) rfl ?_
  intro p e s m args below meth c s₁ B hml hv
  obtain ⟨rfl, hP, hK, hN⟩ := hv
  have hx := B.exec
  have hb := B.bytes
  have hr := B.returns
  have hts : ∀ w ∈ zt, w.before ([.ref (q 0), .int k].toArray) s = true := fun w h => atoms_spec (ws := w_V_head) B.pre w (List.mem_cons_of_mem _ h)
  have hown : s.vm.findClass R_V = some m.cls := findClass_of_methodNamed B.named
  have hlocks := B.notSynchronized
  have hl := lv_entry ([.ref (q 0), .int k]) (n := 2) (Nat.le_of_ble_eq_true rfl)
  rw [lg_entry_eq]
  generalize (lg_sl ([.ref (q 0), .int k]) ++ List.replicate (2 - (lg_sl ([.ref (q 0), .int k])).length) Slot.unset).toArray = ls at hl ⊢
  have hl : lv_has ls 2 [(0, .ref (q 0)), (1, .int k)] := hl
  unfold f_V_head at hres
  refine lv_iload_n hx hb d_V_head_0 rfl (lv_at hl 1 rfl) ?_
  obtain ⟨v1, hc1, hres⟩ := zo_b hres
  refine vp_callSi (va_Run.run (va_runS (As := [.int k]) (rest := []) ⟨hx, hb, hml, hown, hts⟩ (c_V_isBranch l D [(cM, .object R_C), (cH, .int), (cW, .boolean), (cL, .int), (cB, .int), (cS, .object R_T)] k v1 hc1) (va_cwS 1 hts (zg_S k_171 k_172 k_29 g_V_isBranch) rfl rfl rfl hd_V_isBranch ⟨Nat.le_of_ble_eq_true rfl, Nat.le_of_ble_eq_true rfl⟩) ⟨zro_b _, zro_p va_Pnil hK hN _⟩ rfl rfl hl.1 rfl (lv_room (Nat.le_of_ble_eq_true rfl)) d_V_head_1 ⟨Nat.zero_le _, Nat.zero_le _⟩)) (fun r_1 er_1 => ?_)
  have er_1 := er_1.symm
  subst er_1
  refine lv_if_eq (tgt := 26) hx hb d_V_head_4 (by decide) (fun c_4 => ?_) (fun c_4 => ?_)
  · have hres := zi_p c_4 hres
    refine lv_iconst (v := (-1)) hx hb d_V_head_26 (by decide) ?_
    obtain rfl := Option.some.inj hres
    exact W.iret (v := (-1)) hx hb hr (fun t ht hW => ⟨_, rfl, rfl, ht⟩) (fun _ hq => by cases hq) d_V_head_27
  · have hres := zi_n c_4 hres
    refine lv_aload_n hx hb d_V_head_7 rfl (lv_at hl 0 rfl) ?_
    refine va_get (D := D) (ci := 3) (v := .ref (q 2)) (C := R_V) (T := T_V) (N := 10) hx hb hts in_V hown hK hP (0) rfl rfl 2 (by decide) (hts _ k_138) (fun _ h9 => h9) rfl d_V_head_8 ?_
    refine lv_iload_n hx hb d_V_head_11 rfl (lv_at hl 1 rfl) ?_
    by_cases ck_12 : zin k 4
    · have hres := zi_p ck_12 hres
      refine va_iald hx hb hK hP 2 1 rfl rfl ck_12 d_V_head_12 ?_
      refine lv_iconst (v := (-1)) hx hb d_V_head_13 (by decide) ?_
      refine lv_icmp_eq (tgt := 26) hx hb d_V_head_14 (by decide) (fun c_14 => ?_) (fun c_14 => ?_)
      · have hres := zi_p c_14 hres
        refine lv_iconst (v := (-1)) hx hb d_V_head_26 (by decide) ?_
        obtain rfl := Option.some.inj hres
        exact W.iret (v := (-1)) hx hb hr (fun t ht hW => ⟨_, rfl, rfl, ht⟩) (fun _ hq => by cases hq) d_V_head_27
      · have hres := zi_n c_14 hres
        refine lv_aload_n hx hb d_V_head_17 rfl (lv_at hl 0 rfl) ?_
        refine va_get (D := D) (ci := 3) (v := .ref (q 2)) (C := R_V) (T := T_V) (N := 10) hx hb hts in_V hown hK hP (0) rfl rfl 2 (by decide) (hts _ k_138) (fun _ h9 => h9) rfl d_V_head_18 ?_
        refine lv_iload_n hx hb d_V_head_21 rfl (lv_at hl 1 rfl) ?_
        by_cases ck_22 : zin k 4
        · have hres := zi_p ck_22 hres
          refine va_iald hx hb hK hP 2 1 rfl rfl ck_22 d_V_head_22 ?_
          refine lv_goto (tgt := 27) hx hb d_V_head_23 (by decide) ?_
          obtain rfl := Option.some.inj hres
          exact W.iret (v := (σ.2.2.2.1 k.toNatClampNeg)) hx hb hr (fun t ht hW => ⟨_, rfl, rfl, ht⟩) (fun _ hq => by cases hq) d_V_head_27
        · exact absurd (zi_n ck_22 hres) (by simp)
    · exact absurd (zi_n ck_12 hres) (by simp)
def f_V_time (em : TreeV) (cm : Nat → Option ComV) (tm : Nat → Option TreeV) (σ : VSt) (k : Int32) : Option (Int32) :=
  Option.bind (f_V_commitAt em cm tm σ k) (fun v2 =>
    zo_m (v2) (
      some (-1)) (fun y_2 =>
      Option.bind (cm y_2) (fun o_15 =>
        some o_15.2.1)))
set_option maxHeartbeats 4000000 in
set_option maxRecDepth 100000 in
theorem c_V_time (l : Launch) (D : va_G) (tys : List (ClassId × FieldType)) (q : Nat → Nat) (cM : ClassId) (cH : ClassId) (cW : ClassId) (cL : ClassId) (cB : ClassId) (cS : ClassId) (em : TreeV) (pl : va_W) (cm : Nat → Option ComV) (tm : Nat → Option TreeV) (hpl : zpool pl cm tm) (σ : VSt) (k : Int32) (v : Int32) (hres : f_V_time em cm tm σ k = some v) : Met l y_V_time w_V_time ({ frames := 2, cells := 0, slots := 0, locals := 42 } : Room) (va_Pc ([.ref (q 0), .int k]) (zro D [(cM, .object R_C), (cH, .int), (cW, .boolean), (cL, .int), (cB, .int), (cS, .object R_T)] (zX q cM cH cW cL cB cS em σ ++ pl))) (vp_Si (fun r : Int32 => r = v)) 0 0 (fun _ => False) := by
  refine Met.ofW (cc := b_V_time) (maxL := 3) (ret := (some .int)) (by decide) rfl ?_
  intro p e s m args below meth c s₁ B hml hv
  obtain ⟨rfl, hP, hK, hN⟩ := hv
  have hx := B.exec
  have hb := B.bytes
  have hr := B.returns
  have hts : ∀ w ∈ zt, w.before ([.ref (q 0), .int k].toArray) s = true := fun w h => atoms_spec (ws := w_V_time) B.pre w (List.mem_cons_of_mem _ h)
  have hown : s.vm.findClass R_V = some m.cls := findClass_of_methodNamed B.named
  have hlocks := B.notSynchronized
  have hl := lv_entry ([.ref (q 0), .int k]) (n := 3) (Nat.le_of_ble_eq_true rfl)
  rw [lg_entry_eq]
  generalize (lg_sl ([.ref (q 0), .int k]) ++ List.replicate (3 - (lg_sl ([.ref (q 0), .int k])).length) Slot.unset).toArray = ls at hl ⊢
  have hl : lv_has ls 3 [(0, .ref (q 0)), (1, .int k)] := hl
  unfold f_V_time at hres
  refine lv_aload_n hx hb d_V_time_0 rfl (lv_at hl 0 rfl) ?_
  refine lv_iload_n hx hb d_V_time_1 rfl (lv_at hl 1 rfl) ?_
  obtain ⟨v2, hc2, hres⟩ := zo_b hres
  refine va_csq (va_Run.run (va_runV (As := [.int k]) (rest := []) ⟨hx, hb, hml, hown, hts⟩ (c_V_commitAt l D [(cM, .object R_C), (cH, .int), (cW, .boolean), (cL, .int), (cB, .int), (cS, .object R_T)] q cM cH cW cL cB cS em pl cm tm hpl σ k v2 hc2) (cwV 1 hts (zg_V k_179 k_181 k_0 k_29 g_V_commitAt) rfl rfl rfl ⟨rfl, hd_V_commitAt⟩ ⟨Nat.le_of_ble_eq_true rfl, Nat.le_of_ble_eq_true rfl⟩) ⟨zro_b _, va_recv hK hP (q0 := 0) rfl rfl, zro_p hP hK hN _⟩ rfl rfl hl.1 rfl (lv_room (Nat.le_of_ble_eq_true rfl)) d_V_time_2 ⟨Nat.zero_le _, Nat.zero_le _⟩)) (fun r_2 er_2 => ?_)
  have er_2 := er_2.symm
  subst er_2
  rcases hq_2 : v2 with _ | y_2
  · have hres := zo_n hq_2 hres
    refine lv_astore_nN (lv' := [(2, .null), (0, .ref (q 0)), (1, .int k)]) hx hb d_V_time_5 rfl hl (by decide) rfl (fun ls hl => ?_)
    refine lv_aload_nN hx hb d_V_time_6 rfl (lv_at hl 0 rfl) ?_
    refine lv_ifnonnullN hx hb d_V_time_7 ?_
    refine lv_iconst (v := (-1)) hx hb d_V_time_10 (by decide) ?_
    refine lv_goto (tgt := 18) hx hb d_V_time_11 (by decide) ?_
    obtain rfl := Option.some.inj hres
    exact W.iret (v := (-1)) hx hb hr (fun t ht hW => ⟨_, rfl, rfl, ht⟩) (fun _ hq => by cases hq) d_V_time_18
  · have hres := zo_s hq_2 hres
    refine lv_astore_n (lv' := [(2, .ref y_2), (0, .ref (q 0)), (1, .int k)]) hx hb d_V_time_5 rfl hl (by decide) rfl (fun ls hl => ?_)
    refine lv_aload_n hx hb d_V_time_6 rfl (lv_at hl 0 rfl) ?_
    refine lv_ifnonnull (tgt := 14) hx hb d_V_time_7 (by decide) ?_
    refine lv_aload_n hx hb d_V_time_14 rfl (lv_at hl 0 rfl) ?_
    obtain ⟨o_15, ho_15, hres⟩ := zo_b hres
    obtain ⟨ko_15, hko_15⟩ := hpl.1 _ _ ho_15
    refine va_get (D := D) (ci := 1) (v := .int o_15.2.1) (C := R_C) (T := T_C) (N := 7) hx hb hts in_C hown hK hP (15 + ko_15) (zpl_get hko_15) rfl 1 (by decide) (hts _ k_253) (fun _ h9 => h9) rfl d_V_time_15 ?_
    obtain rfl := Option.some.inj hres
    exact W.iret (v := o_15.2.1) hx hb hr (fun t ht hW => ⟨_, rfl, rfl, ht⟩) (fun _ hq => by cases hq) d_V_time_18
def f_V_hash (em : TreeV) (cm : Nat → Option ComV) (tm : Nat → Option TreeV) (σ : VSt) (k : Int32) : Option (Int64) :=
  Option.bind (f_V_commitAt em cm tm σ k) (fun v2 =>
    zo_m (v2) (
      some 0) (fun y_2 =>
      Option.bind (cm y_2) (fun o_15 =>
        some o_15.2.2.2.2.2.2)))
set_option maxHeartbeats 4000000 in
set_option maxRecDepth 100000 in
theorem c_V_hash (l : Launch) (D : va_G) (tys : List (ClassId × FieldType)) (q : Nat → Nat) (cM : ClassId) (cH : ClassId) (cW : ClassId) (cL : ClassId) (cB : ClassId) (cS : ClassId) (em : TreeV) (pl : va_W) (cm : Nat → Option ComV) (tm : Nat → Option TreeV) (hpl : zpool pl cm tm) (σ : VSt) (k : Int32) (v : Int64) (hres : f_V_hash em cm tm σ k = some v) : Met l y_V_hash w_V_hash ({ frames := 2, cells := 0, slots := 0, locals := 42 } : Room) (va_Pc ([.ref (q 0), .int k]) (zro D [(cM, .object R_C), (cH, .int), (cW, .boolean), (cL, .int), (cB, .int), (cS, .object R_T)] (zX q cM cH cW cL cB cS em σ ++ pl))) (vp_Sl (fun r : Int64 => r = v)) 0 0 (fun _ => False) := by
  refine Met.ofW (cc := b_V_hash) (maxL := 3) (ret := (some .long)) (by decide) rfl ?_
  intro p e s m args below meth c s₁ B hml hv
  obtain ⟨rfl, hP, hK, hN⟩ := hv
  have hx := B.exec
  have hb := B.bytes
  have hr := B.returns
  have hts : ∀ w ∈ zt, w.before ([.ref (q 0), .int k].toArray) s = true := fun w h => atoms_spec (ws := w_V_hash) B.pre w (List.mem_cons_of_mem _ h)
  have hown : s.vm.findClass R_V = some m.cls := findClass_of_methodNamed B.named
  have hlocks := B.notSynchronized
  have hl := lv_entry ([.ref (q 0), .int k]) (n := 3) (Nat.le_of_ble_eq_true rfl)
  rw [lg_entry_eq]
  generalize (lg_sl ([.ref (q 0), .int k]) ++ List.replicate (3 - (lg_sl ([.ref (q 0), .int k])).length) Slot.unset).toArray = ls at hl ⊢
  have hl : lv_has ls 3 [(0, .ref (q 0)), (1, .int k)] := hl
  unfold f_V_hash at hres
  refine lv_aload_n hx hb d_V_hash_0 rfl (lv_at hl 0 rfl) ?_
  refine lv_iload_n hx hb d_V_hash_1 rfl (lv_at hl 1 rfl) ?_
  obtain ⟨v2, hc2, hres⟩ := zo_b hres
  refine va_csq (va_Run.run (va_runV (As := [.int k]) (rest := []) ⟨hx, hb, hml, hown, hts⟩ (c_V_commitAt l D [(cM, .object R_C), (cH, .int), (cW, .boolean), (cL, .int), (cB, .int), (cS, .object R_T)] q cM cH cW cL cB cS em pl cm tm hpl σ k v2 hc2) (cwV 1 hts (zg_V k_179 k_181 k_0 k_29 g_V_commitAt) rfl rfl rfl ⟨rfl, hd_V_commitAt⟩ ⟨Nat.le_of_ble_eq_true rfl, Nat.le_of_ble_eq_true rfl⟩) ⟨zro_b _, va_recv hK hP (q0 := 0) rfl rfl, zro_p hP hK hN _⟩ rfl rfl hl.1 rfl (lv_room (Nat.le_of_ble_eq_true rfl)) d_V_hash_2 ⟨Nat.zero_le _, Nat.zero_le _⟩)) (fun r_2 er_2 => ?_)
  have er_2 := er_2.symm
  subst er_2
  rcases hq_2 : v2 with _ | y_2
  · have hres := zo_n hq_2 hres
    refine lv_astore_nN (lv' := [(2, .null), (0, .ref (q 0)), (1, .int k)]) hx hb d_V_hash_5 rfl hl (by decide) rfl (fun ls hl => ?_)
    refine lv_aload_nN hx hb d_V_hash_6 rfl (lv_at hl 0 rfl) ?_
    refine lv_ifnonnullN hx hb d_V_hash_7 ?_
    refine lv_lconst (v := 0) hx hb d_V_hash_10 (by decide) ?_
    refine lv_goto (tgt := 18) hx hb d_V_hash_11 (by decide) ?_
    obtain rfl := Option.some.inj hres
    exact W.lret (v := 0) hx hb hr (fun t ht hW => ⟨_, rfl, rfl, ht⟩) (fun _ hq => by cases hq) d_V_hash_18
  · have hres := zo_s hq_2 hres
    refine lv_astore_n (lv' := [(2, .ref y_2), (0, .ref (q 0)), (1, .int k)]) hx hb d_V_hash_5 rfl hl (by decide) rfl (fun ls hl => ?_)
    refine lv_aload_n hx hb d_V_hash_6 rfl (lv_at hl 0 rfl) ?_
    refine lv_ifnonnull (tgt := 14) hx hb d_V_hash_7 (by decide) ?_
    refine lv_aload_n hx hb d_V_hash_14 rfl (lv_at hl 0 rfl) ?_
    obtain ⟨o_15, ho_15, hres⟩ := zo_b hres
    obtain ⟨ko_15, hko_15⟩ := hpl.1 _ _ ho_15
    refine va_get (D := D) (ci := 1) (v := .long o_15.2.2.2.2.2.2) (C := R_C) (T := T_C) (N := 7) hx hb hts in_C hown hK hP (15 + ko_15) (zpl_get hko_15) rfl 6 (by decide) (hts _ k_263) (fun _ h9 => h9) rfl d_V_hash_15 ?_
    obtain rfl := Option.some.inj hres
    exact W.lret (v := o_15.2.2.2.2.2.2) hx hb hr (fun t ht hW => ⟨_, rfl, rfl, ht⟩) (fun _ hq => by cases hq) d_V_hash_18
def f_V_parent (em : TreeV) (cm : Nat → Option ComV) (tm : Nat → Option TreeV) (σ : VSt) (k : Int32) (j : Int32) : Option (Int32) :=
  Option.bind (f_V_commitAt em cm tm σ k) (fun v2 =>
    zo_m (v2) (
      some (-1)) (fun y_2 =>
      if j < 0 then
        some (-1)
      else
        if j ≤ 1 then
          if j = 0 then
            Option.bind (cm y_2) (fun o_26 =>
              zo_m (o_26.2.2.1) (
                some (-1)) (fun y_26 =>
                Option.bind (cm y_26) (fun o_49' =>
                  some o_49'.1)))
          else
            Option.bind (cm y_2) (fun o_33 =>
              zo_m (o_33.2.2.2.1) (
                some (-1)) (fun y_33 =>
                Option.bind (cm y_33) (fun o_49 =>
                  some o_49.1)))
        else
          some (-1)))
set_option maxHeartbeats 4000000 in
set_option maxRecDepth 100000 in
theorem c_V_parent (l : Launch) (D : va_G) (tys : List (ClassId × FieldType)) (q : Nat → Nat) (cM : ClassId) (cH : ClassId) (cW : ClassId) (cL : ClassId) (cB : ClassId) (cS : ClassId) (em : TreeV) (pl : va_W) (cm : Nat → Option ComV) (tm : Nat → Option TreeV) (hpl : zpool pl cm tm) (σ : VSt) (k : Int32) (j : Int32) (v : Int32) (hres : f_V_parent em cm tm σ k j = some v) : Met l y_V_parent w_V_parent ({ frames := 2, cells := 0, slots := 0, locals := 42 } : Room) (va_Pc ([.ref (q 0), .int k, .int j]) (zro D [(cM, .object R_C), (cH, .int), (cW, .boolean), (cL, .int), (cB, .int), (cS, .object R_T)] (zX q cM cH cW cL cB cS em σ ++ pl))) (vp_Si (fun r : Int32 => r = v)) 0 0 (fun _ => False) := by
  refine Met.ofW (cc := b_V_parent) (maxL := 5) (ret := (some .int)) (by decide) rfl ?_
  intro p e s m args below meth c s₁ B hml hv
  obtain ⟨rfl, hP, hK, hN⟩ := hv
  have hx := B.exec
  have hb := B.bytes
  have hr := B.returns
  have hts : ∀ w ∈ zt, w.before ([.ref (q 0), .int k, .int j].toArray) s = true := fun w h => atoms_spec (ws := w_V_parent) B.pre w (List.mem_cons_of_mem _ h)
  have hown : s.vm.findClass R_V = some m.cls := findClass_of_methodNamed B.named
  have hlocks := B.notSynchronized
  have hl := lv_entry ([.ref (q 0), .int k, .int j]) (n := 5) (Nat.le_of_ble_eq_true rfl)
  rw [lg_entry_eq]
  generalize (lg_sl ([.ref (q 0), .int k, .int j]) ++ List.replicate (5 - (lg_sl ([.ref (q 0), .int k, .int j])).length) Slot.unset).toArray = ls at hl ⊢
  have hl : lv_has ls 5 [(0, .ref (q 0)), (1, .int k), (2, .int j)] := hl
  unfold f_V_parent at hres
  refine lv_aload_n hx hb d_V_parent_0 rfl (lv_at hl 0 rfl) ?_
  refine lv_iload_n hx hb d_V_parent_1 rfl (lv_at hl 1 rfl) ?_
  obtain ⟨v2, hc2, hres⟩ := zo_b hres
  refine va_csq (va_Run.run (va_runV (As := [.int k]) (rest := []) ⟨hx, hb, hml, hown, hts⟩ (c_V_commitAt l D [(cM, .object R_C), (cH, .int), (cW, .boolean), (cL, .int), (cB, .int), (cS, .object R_T)] q cM cH cW cL cB cS em pl cm tm hpl σ k v2 hc2) (cwV 1 hts (zg_V k_179 k_181 k_0 k_29 g_V_commitAt) rfl rfl rfl ⟨rfl, hd_V_commitAt⟩ ⟨Nat.le_of_ble_eq_true rfl, Nat.le_of_ble_eq_true rfl⟩) ⟨zro_b _, va_recv hK hP (q0 := 0) rfl rfl, zro_p hP hK hN _⟩ rfl rfl hl.1 rfl (lv_room (Nat.le_of_ble_eq_true rfl)) d_V_parent_2 ⟨Nat.zero_le _, Nat.zero_le _⟩)) (fun r_2 er_2 => ?_)
  have er_2 := er_2.symm
  subst er_2
  rcases hq_2 : v2 with _ | y_2
  · have hres := zo_n hq_2 hres
    refine lv_astore_nN (lv' := [(3, .null), (0, .ref (q 0)), (1, .int k), (2, .int j)]) hx hb d_V_parent_5 rfl hl (by decide) rfl (fun ls hl => ?_)
    refine lv_aload_nN hx hb d_V_parent_6 rfl (lv_at hl 0 rfl) ?_
    refine lv_ifnullN (tgt := 19) hx hb d_V_parent_7 (by decide) ?_
    refine lv_iconst (v := (-1)) hx hb d_V_parent_19 (by decide) ?_
    obtain rfl := Option.some.inj hres
    exact W.iret (v := (-1)) hx hb hr (fun t ht hW => ⟨_, rfl, rfl, ht⟩) (fun _ hq => by cases hq) d_V_parent_20
  · have hres := zo_s hq_2 hres
    refine lv_astore_n (lv' := [(3, .ref y_2), (0, .ref (q 0)), (1, .int k), (2, .int j)]) hx hb d_V_parent_5 rfl hl (by decide) rfl (fun ls hl => ?_)
    refine lv_aload_n hx hb d_V_parent_6 rfl (lv_at hl 0 rfl) ?_
    refine lv_ifnull hx hb d_V_parent_7 ?_
    refine lv_iload_n hx hb d_V_parent_10 rfl (lv_at hl 3 rfl) ?_
    refine lv_if_lt (tgt := 19) hx hb d_V_parent_11 (by decide) (fun c_11 => ?_) (fun c_11 => ?_)
    · have hres := zi_p c_11 hres
      refine lv_iconst (v := (-1)) hx hb d_V_parent_19 (by decide) ?_
      obtain rfl := Option.some.inj hres
      exact W.iret (v := (-1)) hx hb hr (fun t ht hW => ⟨_, rfl, rfl, ht⟩) (fun _ hq => by cases hq) d_V_parent_20
    · have hres := zi_n c_11 hres
      refine lv_iload_n hx hb d_V_parent_14 rfl (lv_at hl 3 rfl) ?_
      refine lv_iconst (v := 1) hx hb d_V_parent_15 (by decide) ?_
      refine lv_icmp_le (tgt := 21) hx hb d_V_parent_16 (by decide) (fun c_16 => ?_) (fun c_16 => ?_)
      · have hres := zi_p c_16 hres
        refine lv_iload_n hx hb d_V_parent_21 rfl (lv_at hl 3 rfl) ?_
        refine lv_if_ne (tgt := 32) hx hb d_V_parent_22 (by decide) (fun c_22 => ?_) (fun c_22 => ?_)
        · have hres := zi_n c_22 hres
          refine lv_aload_n hx hb d_V_parent_32 rfl (lv_at hl 0 rfl) ?_
          obtain ⟨o_33, ho_33, hres⟩ := zo_b hres
          obtain ⟨ko_33, hko_33⟩ := hpl.1 _ _ ho_33
          refine va_get (D := D) (ci := 1) (v := va_rf o_33.2.2.2.1) (C := R_C) (T := T_C) (N := 7) hx hb hts in_C hown hK hP (15 + ko_33) (zpl_get hko_33) rfl 3 (by decide) (hts _ k_257) (fun _ h9 => h9) rfl d_V_parent_33 ?_
          rcases hq_33 : o_33.2.2.2.1 with _ | y_33
          · have hres := zo_n hq_33 hres
            refine lv_astoreN (lv' := [(4, .null), (3, .ref y_2), (0, .ref (q 0)), (1, .int k), (2, .int j)]) hx hb d_V_parent_36 hl (by decide) rfl (fun ls hl => ?_)
            refine lv_aloadN hx hb d_V_parent_38 (lv_at hl 0 rfl) ?_
            refine lv_ifnonnullN hx hb d_V_parent_40 ?_
            refine lv_iconst (v := (-1)) hx hb d_V_parent_43 (by decide) ?_
            refine lv_goto (tgt := 52) hx hb d_V_parent_44 (by decide) ?_
            obtain rfl := Option.some.inj hres
            exact W.iret (v := (-1)) hx hb hr (fun t ht hW => ⟨_, rfl, rfl, ht⟩) (fun _ hq => by cases hq) d_V_parent_52
          · have hres := zo_s hq_33 hres
            refine lv_astore (lv' := [(4, .ref y_33), (3, .ref y_2), (0, .ref (q 0)), (1, .int k), (2, .int j)]) hx hb d_V_parent_36 hl (by decide) rfl (fun ls hl => ?_)
            refine lv_aload hx hb d_V_parent_38 (lv_at hl 0 rfl) ?_
            refine lv_ifnonnull (tgt := 47) hx hb d_V_parent_40 (by decide) ?_
            refine lv_aload hx hb d_V_parent_47 (lv_at hl 0 rfl) ?_
            obtain ⟨o_49, ho_49, hres⟩ := zo_b hres
            obtain ⟨ko_49, hko_49⟩ := hpl.1 _ _ ho_49
            refine va_get (D := D) (ci := 1) (v := .int o_49.1) (C := R_C) (T := T_C) (N := 7) hx hb hts in_C hown hK hP (15 + ko_49) (zpl_get hko_49) rfl 0 (by decide) (hts _ k_251) (fun _ h9 => h9) rfl d_V_parent_49 ?_
            obtain rfl := Option.some.inj hres
            exact W.iret (v := o_49.1) hx hb hr (fun t ht hW => ⟨_, rfl, rfl, ht⟩) (fun _ hq => by cases hq) d_V_parent_52
        · have hres := zi_p c_22 hres
          refine lv_aload_n hx hb d_V_parent_25 rfl (lv_at hl 0 rfl) ?_
          obtain ⟨o_26, ho_26, hres⟩ := zo_b hres
          obtain ⟨ko_26, hko_26⟩ := hpl.1 _ _ ho_26
          refine va_get (D := D) (ci := 1) (v := va_rf o_26.2.2.1) (C := R_C) (T := T_C) (N := 7) hx hb hts in_C hown hK hP (15 + ko_26) (zpl_get hko_26) rfl 2 (by decide) (hts _ k_255) (fun _ h9 => h9) rfl d_V_parent_26 ?_
          rcases hq_26 : o_26.2.2.1 with _ | y_26
          · have hres := zo_n hq_26 hres
            refine lv_goto (tgt := 36) hx hb d_V_parent_29 (by decide) ?_
            refine lv_astoreN (lv' := [(4, .null), (3, .ref y_2), (0, .ref (q 0)), (1, .int k), (2, .int j)]) hx hb d_V_parent_36 hl (by decide) rfl (fun ls hl => ?_)
            refine lv_aloadN hx hb d_V_parent_38 (lv_at hl 0 rfl) ?_
            refine lv_ifnonnullN hx hb d_V_parent_40 ?_
            refine lv_iconst (v := (-1)) hx hb d_V_parent_43 (by decide) ?_
            refine lv_goto (tgt := 52) hx hb d_V_parent_44 (by decide) ?_
            obtain rfl := Option.some.inj hres
            exact W.iret (v := (-1)) hx hb hr (fun t ht hW => ⟨_, rfl, rfl, ht⟩) (fun _ hq => by cases hq) d_V_parent_52
          · have hres := zo_s hq_26 hres
            refine lv_goto (tgt := 36) hx hb d_V_parent_29 (by decide) ?_
            refine lv_astore (lv' := [(4, .ref y_26), (3, .ref y_2), (0, .ref (q 0)), (1, .int k), (2, .int j)]) hx hb d_V_parent_36 hl (by decide) rfl (fun ls hl => ?_)
            refine lv_aload hx hb d_V_parent_38 (lv_at hl 0 rfl) ?_
            refine lv_ifnonnull (tgt := 47) hx hb d_V_parent_40 (by decide) ?_
            refine lv_aload hx hb d_V_parent_47 (lv_at hl 0 rfl) ?_
            obtain ⟨o_49', ho_49', hres⟩ := zo_b hres
            obtain ⟨ko_49', hko_49'⟩ := hpl.1 _ _ ho_49'
            refine va_get (D := D) (ci := 1) (v := .int o_49'.1) (C := R_C) (T := T_C) (N := 7) hx hb hts in_C hown hK hP (15 + ko_49') (zpl_get hko_49') rfl 0 (by decide) (hts _ k_251) (fun _ h9 => h9) rfl d_V_parent_49 ?_
            obtain rfl := Option.some.inj hres
            exact W.iret (v := o_49'.1) hx hb hr (fun t ht hW => ⟨_, rfl, rfl, ht⟩) (fun _ hq => by cases hq) d_V_parent_52
      · have hres := zi_n c_16 hres
        refine lv_iconst (v := (-1)) hx hb d_V_parent_19 (by decide) ?_
        obtain rfl := Option.some.inj hres
        exact W.iret (v := (-1)) hx hb hr (fun t ht hW => ⟨_, rfl, rfl, ht⟩) (fun _ hq => by cases hq) d_V_parent_20
def f_V_ancestors (em : TreeV) (cm : Nat → Option ComV) (tm : Nat → Option TreeV) (σ : VSt) (k : Int32) : Option (Int32) :=
  Option.bind (f_V_commitAt em cm tm σ k) (fun v2 =>
    zo_m (v2) (
      some (-1)) (fun y_2 =>
      Option.bind (cm y_2) (fun o_15 =>
        Option.bind (f_JL_bitCount o_15.2.2.2.2.2.1) (fun v18 =>
          some v18))))
set_option maxHeartbeats 4000000 in
set_option maxRecDepth 100000 in
theorem c_V_ancestors (l : Launch) (D : va_G) (tys : List (ClassId × FieldType)) (q : Nat → Nat) (cM : ClassId) (cH : ClassId) (cW : ClassId) (cL : ClassId) (cB : ClassId) (cS : ClassId) (em : TreeV) (pl : va_W) (cm : Nat → Option ComV) (tm : Nat → Option TreeV) (hpl : zpool pl cm tm) (σ : VSt) (k : Int32) (v : Int32) (hres : f_V_ancestors em cm tm σ k = some v) : Met l y_V_ancestors w_V_ancestors ({ frames := 2, cells := 0, slots := 0, locals := 42 } : Room) (va_Pc ([.ref (q 0), .int k]) (zro D [(cM, .object R_C), (cH, .int), (cW, .boolean), (cL, .int), (cB, .int), (cS, .object R_T)] (zX q cM cH cW cL cB cS em σ ++ pl))) (vp_Si (fun r : Int32 => r = v)) 0 0 (fun _ => False) := by
  refine Met.ofW (cc := b_V_ancestors) (maxL := 3) (ret := (some .int)) (by decide) rfl ?_
  intro p e s m args below meth c s₁ B hml hv
  obtain ⟨rfl, hP, hK, hN⟩ := hv
  have hx := B.exec
  have hb := B.bytes
  have hr := B.returns
  have hts : ∀ w ∈ zt, w.before ([.ref (q 0), .int k].toArray) s = true := fun w h => atoms_spec (ws := w_V_ancestors) B.pre w (List.mem_cons_of_mem _ h)
  have hown : s.vm.findClass R_V = some m.cls := findClass_of_methodNamed B.named
  have hlocks := B.notSynchronized
  have hl := lv_entry ([.ref (q 0), .int k]) (n := 3) (Nat.le_of_ble_eq_true rfl)
  rw [lg_entry_eq]
  generalize (lg_sl ([.ref (q 0), .int k]) ++ List.replicate (3 - (lg_sl ([.ref (q 0), .int k])).length) Slot.unset).toArray = ls at hl ⊢
  have hl : lv_has ls 3 [(0, .ref (q 0)), (1, .int k)] := hl
  unfold f_V_ancestors at hres
  refine lv_aload_n hx hb d_V_ancestors_0 rfl (lv_at hl 0 rfl) ?_
  refine lv_iload_n hx hb d_V_ancestors_1 rfl (lv_at hl 1 rfl) ?_
  obtain ⟨v2, hc2, hres⟩ := zo_b hres
  refine va_csq (va_Run.run (va_runV (As := [.int k]) (rest := []) ⟨hx, hb, hml, hown, hts⟩ (c_V_commitAt l D [(cM, .object R_C), (cH, .int), (cW, .boolean), (cL, .int), (cB, .int), (cS, .object R_T)] q cM cH cW cL cB cS em pl cm tm hpl σ k v2 hc2) (cwV 1 hts (zg_V k_179 k_181 k_0 k_29 g_V_commitAt) rfl rfl rfl ⟨rfl, hd_V_commitAt⟩ ⟨Nat.le_of_ble_eq_true rfl, Nat.le_of_ble_eq_true rfl⟩) ⟨zro_b _, va_recv hK hP (q0 := 0) rfl rfl, zro_p hP hK hN _⟩ rfl rfl hl.1 rfl (lv_room (Nat.le_of_ble_eq_true rfl)) d_V_ancestors_2 ⟨Nat.zero_le _, Nat.zero_le _⟩)) (fun r_2 er_2 => ?_)
  have er_2 := er_2.symm
  subst er_2
  rcases hq_2 : v2 with _ | y_2
  · have hres := zo_n hq_2 hres
    refine lv_astore_nN (lv' := [(2, .null), (0, .ref (q 0)), (1, .int k)]) hx hb d_V_ancestors_5 rfl hl (by decide) rfl (fun ls hl => ?_)
    refine lv_aload_nN hx hb d_V_ancestors_6 rfl (lv_at hl 0 rfl) ?_
    refine lv_ifnonnullN hx hb d_V_ancestors_7 ?_
    refine lv_iconst (v := (-1)) hx hb d_V_ancestors_10 (by decide) ?_
    refine lv_goto (tgt := 21) hx hb d_V_ancestors_11 (by decide) ?_
    obtain rfl := Option.some.inj hres
    exact W.iret (v := (-1)) hx hb hr (fun t ht hW => ⟨_, rfl, rfl, ht⟩) (fun _ hq => by cases hq) d_V_ancestors_21
  · have hres := zo_s hq_2 hres
    refine lv_astore_n (lv' := [(2, .ref y_2), (0, .ref (q 0)), (1, .int k)]) hx hb d_V_ancestors_5 rfl hl (by decide) rfl (fun ls hl => ?_)
    refine lv_aload_n hx hb d_V_ancestors_6 rfl (lv_at hl 0 rfl) ?_
    refine lv_ifnonnull (tgt := 14) hx hb d_V_ancestors_7 (by decide) ?_
    refine lv_aload_n hx hb d_V_ancestors_14 rfl (lv_at hl 0 rfl) ?_
    obtain ⟨o_15, ho_15, hres⟩ := zo_b hres
    obtain ⟨ko_15, hko_15⟩ := hpl.1 _ _ ho_15
    refine va_get (D := D) (ci := 1) (v := .long o_15.2.2.2.2.2.1) (C := R_C) (T := T_C) (N := 7) hx hb hts in_C hown hK hP (15 + ko_15) (zpl_get hko_15) rfl 5 (by decide) (hts _ k_261) (fun _ h9 => h9) rfl d_V_ancestors_15 ?_
    obtain ⟨v18, hc18, hres⟩ := zo_b hres
    refine vp_callSi (va_Run.run (va_runS (As := [.long o_15.2.2.2.2.2.1]) (rest := []) ⟨hx, hb, hml, hown, hts⟩ (c_JL_bitCount l D [(cM, .object R_C), (cH, .int), (cW, .boolean), (cL, .int), (cB, .int), (cS, .object R_T)] o_15.2.2.2.2.2.1 v18 hc18) (va_cwS 1 hts (zg_S k_385 k_386 k_37 g_JL_bitCount) rfl rfl rfl hd_JL_bitCount ⟨Nat.le_of_ble_eq_true rfl, Nat.le_of_ble_eq_true rfl⟩) ⟨zro_b _, zro_p va_Pnil hK hN _⟩ rfl rfl hl.1 rfl (lv_room (Nat.le_of_ble_eq_true rfl)) d_V_ancestors_18 ⟨Nat.zero_le _, Nat.zero_le _⟩)) (fun r_18 er_18 => ?_)
    have er_18 := er_18.symm
    subst er_18
    obtain rfl := Option.some.inj hres
    exact W.iret (v := v18) hx hb hr (fun t ht hW => ⟨_, rfl, rfl, ht⟩) (fun _ hq => by cases hq) d_V_ancestors_21
def f_V_queued (em : TreeV) (cm : Nat → Option ComV) (tm : Nat → Option TreeV) (σ : VSt) (k : Int32) (j : Int32) : Option (Int32) :=
  Option.bind (f_V_commitAt em cm tm σ k) (fun v2 =>
    zo_m (v2) (
      some (-1)) (fun y_2 =>
      if j < 0 then
        some (-1)
      else
        Option.bind (cm y_2) (fun o_16 =>
          Option.bind (tm o_16.2.2.2.2.1) (fun o_19 =>
            Option.bind (f_Q_length o_19.2.2.2.2.2.1) (fun v22 =>
              if j < v22 then
                Option.bind (f_Q_elementAt o_19.2.2.2.2.2.1 j) (fun v38 =>
                  some v38)
              else
                some (-1))))))
set_option maxHeartbeats 4000000 in
set_option maxRecDepth 100000 in
theorem c_V_queued (l : Launch) (D : va_G) (tys : List (ClassId × FieldType)) (q : Nat → Nat) (cM : ClassId) (cH : ClassId) (cW : ClassId) (cL : ClassId) (cB : ClassId) (cS : ClassId) (em : TreeV) (pl : va_W) (cm : Nat → Option ComV) (tm : Nat → Option TreeV) (hpl : zpool pl cm tm) (σ : VSt) (k : Int32) (j : Int32) (v : Int32) (hres : f_V_queued em cm tm σ k j = some v) : Met l y_V_queued w_V_queued ({ frames := 2, cells := 0, slots := 0, locals := 44 } : Room) (va_Pc ([.ref (q 0), .int k, .int j]) (zro D [(cM, .object R_C), (cH, .int), (cW, .boolean), (cL, .int), (cB, .int), (cS, .object R_T)] (zX q cM cH cW cL cB cS em σ ++ pl))) (vp_Si (fun r : Int32 => r = v)) 0 0 (fun _ => False) := by
  refine Met.ofW (cc := b_V_queued) (maxL := 4) (ret := (some .int)) (by decide) rfl ?_
  intro p e s m args below meth c s₁ B hml hv
  obtain ⟨rfl, hP, hK, hN⟩ := hv
  have hx := B.exec
  have hb := B.bytes
  have hr := B.returns
  have hts : ∀ w ∈ zt, w.before ([.ref (q 0), .int k, .int j].toArray) s = true := fun w h => atoms_spec (ws := w_V_queued) B.pre w (List.mem_cons_of_mem _ h)
  have hown : s.vm.findClass R_V = some m.cls := findClass_of_methodNamed B.named
  have hlocks := B.notSynchronized
  have hl := lv_entry ([.ref (q 0), .int k, .int j]) (n := 4) (Nat.le_of_ble_eq_true rfl)
  rw [lg_entry_eq]
  generalize (lg_sl ([.ref (q 0), .int k, .int j]) ++ List.replicate (4 - (lg_sl ([.ref (q 0), .int k, .int j])).length) Slot.unset).toArray = ls at hl ⊢
  have hl : lv_has ls 4 [(0, .ref (q 0)), (1, .int k), (2, .int j)] := hl
  unfold f_V_queued at hres
  refine lv_aload_n hx hb d_V_queued_0 rfl (lv_at hl 0 rfl) ?_
  refine lv_iload_n hx hb d_V_queued_1 rfl (lv_at hl 1 rfl) ?_
  obtain ⟨v2, hc2, hres⟩ := zo_b hres
  refine va_csq (va_Run.run (va_runV (As := [.int k]) (rest := []) ⟨hx, hb, hml, hown, hts⟩ (c_V_commitAt l D [(cM, .object R_C), (cH, .int), (cW, .boolean), (cL, .int), (cB, .int), (cS, .object R_T)] q cM cH cW cL cB cS em pl cm tm hpl σ k v2 hc2) (cwV 1 hts (zg_V k_179 k_181 k_0 k_29 g_V_commitAt) rfl rfl rfl ⟨rfl, hd_V_commitAt⟩ ⟨Nat.le_of_ble_eq_true rfl, Nat.le_of_ble_eq_true rfl⟩) ⟨zro_b _, va_recv hK hP (q0 := 0) rfl rfl, zro_p hP hK hN _⟩ rfl rfl hl.1 rfl (lv_room (Nat.le_of_ble_eq_true rfl)) d_V_queued_2 ⟨Nat.zero_le _, Nat.zero_le _⟩)) (fun r_2 er_2 => ?_)
  have er_2 := er_2.symm
  subst er_2
  rcases hq_2 : v2 with _ | y_2
  · have hres := zo_n hq_2 hres
    refine lv_astore_nN (lv' := [(3, .null), (0, .ref (q 0)), (1, .int k), (2, .int j)]) hx hb d_V_queued_5 rfl hl (by decide) rfl (fun ls hl => ?_)
    refine lv_aload_nN hx hb d_V_queued_6 rfl (lv_at hl 0 rfl) ?_
    refine lv_ifnullN (tgt := 28) hx hb d_V_queued_7 (by decide) ?_
    refine lv_iconst (v := (-1)) hx hb d_V_queued_28 (by decide) ?_
    obtain rfl := Option.some.inj hres
    exact W.iret (v := (-1)) hx hb hr (fun t ht hW => ⟨_, rfl, rfl, ht⟩) (fun _ hq => by cases hq) d_V_queued_29
  · have hres := zo_s hq_2 hres
    refine lv_astore_n (lv' := [(3, .ref y_2), (0, .ref (q 0)), (1, .int k), (2, .int j)]) hx hb d_V_queued_5 rfl hl (by decide) rfl (fun ls hl => ?_)
    refine lv_aload_n hx hb d_V_queued_6 rfl (lv_at hl 0 rfl) ?_
    refine lv_ifnull hx hb d_V_queued_7 ?_
    refine lv_iload_n hx hb d_V_queued_10 rfl (lv_at hl 3 rfl) ?_
    refine lv_if_lt (tgt := 28) hx hb d_V_queued_11 (by decide) (fun c_11 => ?_) (fun c_11 => ?_)
    · have hres := zi_p c_11 hres
      refine lv_iconst (v := (-1)) hx hb d_V_queued_28 (by decide) ?_
      obtain rfl := Option.some.inj hres
      exact W.iret (v := (-1)) hx hb hr (fun t ht hW => ⟨_, rfl, rfl, ht⟩) (fun _ hq => by cases hq) d_V_queued_29
    · have hres := zi_n c_11 hres
      refine lv_iload_n hx hb d_V_queued_14 rfl (lv_at hl 3 rfl) ?_
      refine lv_aload_n hx hb d_V_queued_15 rfl (lv_at hl 0 rfl) ?_
      obtain ⟨o_16, ho_16, hres⟩ := zo_b hres
      obtain ⟨ko_16, hko_16⟩ := hpl.1 _ _ ho_16
      refine va_get (D := D) (ci := 1) (v := .ref o_16.2.2.2.2.1) (C := R_C) (T := T_C) (N := 7) hx hb hts in_C hown hK hP (15 + ko_16) (zpl_get hko_16) rfl 4 (by decide) (hts _ k_259) (fun _ h9 => h9) rfl d_V_queued_16 ?_
      obtain ⟨o_19, ho_19, hres⟩ := zo_b hres
      obtain ⟨ko_19, hko_19⟩ := hpl.2 _ _ ho_19
      refine va_get (D := D) (ci := 0) (v := .long o_19.2.2.2.2.2.1) (C := R_T) (T := T_T) (N := 10) hx hb hts in_T hown hK hP (15 + ko_19) (zpl_get hko_19) rfl 5 (by decide) (hts _ k_81) (fun _ h9 => h9) rfl d_V_queued_19 ?_
      obtain ⟨v22, hc22, hres⟩ := zo_b hres
      refine vp_callSi (va_Run.run (va_runS (As := [.long o_19.2.2.2.2.2.1]) (rest := [.int j]) ⟨hx, hb, hml, hown, hts⟩ (c_Q_length l D [(cM, .object R_C), (cH, .int), (cW, .boolean), (cL, .int), (cB, .int), (cS, .object R_T)] o_19.2.2.2.2.2.1 v22 hc22) (va_cwS 1 hts (zg_S k_400 k_206 k_34 g_Q_length) rfl rfl rfl hd_Q_length ⟨Nat.le_of_ble_eq_true rfl, Nat.le_of_ble_eq_true rfl⟩) ⟨zro_b _, zro_p va_Pnil hK hN _⟩ rfl rfl hl.1 rfl (lv_room (Nat.le_of_ble_eq_true rfl)) d_V_queued_22 ⟨Nat.zero_le _, Nat.zero_le _⟩)) (fun r_22 er_22 => ?_)
      have er_22 := er_22.symm
      subst er_22
      refine lv_icmp_lt (tgt := 30) hx hb d_V_queued_25 (by decide) (fun c_25 => ?_) (fun c_25 => ?_)
      · have hres := zi_p c_25 hres
        refine lv_aload_n hx hb d_V_queued_30 rfl (lv_at hl 0 rfl) ?_
        refine va_get (D := D) (ci := 1) (v := .ref o_16.2.2.2.2.1) (C := R_C) (T := T_C) (N := 7) hx hb hts in_C hown hK hP (15 + ko_16) (zpl_get hko_16) rfl 4 (by decide) (hts _ k_259) (fun _ h9 => h9) rfl d_V_queued_31 ?_
        refine va_get (D := D) (ci := 0) (v := .long o_19.2.2.2.2.2.1) (C := R_T) (T := T_T) (N := 10) hx hb hts in_T hown hK hP (15 + ko_19) (zpl_get hko_19) rfl 5 (by decide) (hts _ k_81) (fun _ h9 => h9) rfl d_V_queued_34 ?_
        refine lv_iload_n hx hb d_V_queued_37 rfl (lv_at hl 3 rfl) ?_
        obtain ⟨v38, hc38, hres⟩ := zo_b hres
        refine vp_callSi (va_Run.run (va_runS (As := [.long o_19.2.2.2.2.2.1, .int j]) (rest := []) ⟨hx, hb, hml, hown, hts⟩ (c_Q_elementAt l D [(cM, .object R_C), (cH, .int), (cW, .boolean), (cL, .int), (cB, .int), (cS, .object R_T)] o_19.2.2.2.2.2.1 j v38 hc38) (va_cwS 2 hts (zg_S k_405 k_202 k_34 g_Q_elementAt) rfl rfl rfl hd_Q_elementAt ⟨Nat.le_of_ble_eq_true rfl, Nat.le_of_ble_eq_true rfl⟩) ⟨zro_b _, zro_p va_Pnil hK hN _⟩ rfl rfl hl.1 rfl (lv_room (Nat.le_of_ble_eq_true rfl)) d_V_queued_38 ⟨Nat.zero_le _, Nat.zero_le _⟩)) (fun r_38 er_38 => ?_)
        have er_38 := er_38.symm
        subst er_38
        obtain rfl := Option.some.inj hres
        exact W.iret (v := v38) hx hb hr (fun t ht hW => ⟨_, rfl, rfl, ht⟩) (fun _ hq => by cases hq) d_V_queued_41
      · have hres := zi_n c_25 hres
        refine lv_iconst (v := (-1)) hx hb d_V_queued_28 (by decide) ?_
        obtain rfl := Option.some.inj hres
        exact W.iret (v := (-1)) hx hb hr (fun t ht hW => ⟨_, rfl, rfl, ht⟩) (fun _ hq => by cases hq) d_V_queued_29
def f_V_value (em : TreeV) (cm : Nat → Option ComV) (tm : Nat → Option TreeV) (σ : VSt) (k : Int32) (j : Int32) : Option (Int64) :=
  Option.bind (f_V_commitAt em cm tm σ k) (fun v2 =>
    zo_m (v2) (
      some (-1)) (fun y_2 =>
      Option.bind (cm y_2) (fun o_15 =>
        if j = 0 then
          Option.bind (tm o_15.2.2.2.2.1) (fun o_78 =>
            some o_78.1)
        else
          if j = 1 then
            Option.bind (tm o_15.2.2.2.2.1) (fun o_84 =>
              some o_84.2.1.toInt64)
          else
            if j = 2 then
              Option.bind (tm o_15.2.2.2.2.1) (fun o_91 =>
                some o_91.2.2.1.toInt64)
            else
              if j = 3 then
                Option.bind (tm o_15.2.2.2.2.1) (fun o_98 =>
                  some o_98.2.2.2.1.toInt64)
              else
                if j = 4 then
                  Option.bind (tm o_15.2.2.2.2.1) (fun o_105 =>
                    Option.bind (f_T_setAsSum o_105) (fun v105 =>
                      some v105))
                else
                  if j = 5 then
                    Option.bind (tm o_15.2.2.2.2.1) (fun o_111 =>
                      Option.bind (f_Q_length o_111.2.2.2.2.2.1) (fun v114 =>
                        some v114.toInt64))
                  else
                    if j = 6 then
                      Option.bind (tm o_15.2.2.2.2.1) (fun o_121 =>
                        some o_121.2.2.2.2.2.2.2.1)
                    else
                      if j = 7 then
                        Option.bind (tm o_15.2.2.2.2.1) (fun o_127 =>
                          if o_127.2.2.2.2.2.2.1 = 0 then
                            some 0
                          else
                            some 1)
                      else
                        if j = 8 then
                          Option.bind (tm o_15.2.2.2.2.1) (fun o_141 =>
                            some o_141.2.2.2.2.2.2.2.2.1)
                        else
                          if j = 9 then
                            Option.bind (tm o_15.2.2.2.2.1) (fun o_147 =>
                              some o_147.2.2.2.2.2.2.2.2.2.toInt64)
                          else
                            some (-1))))
set_option maxHeartbeats 4000000 in
set_option maxRecDepth 100000 in
theorem c_V_value (l : Launch) (D : va_G) (tys : List (ClassId × FieldType)) (q : Nat → Nat) (cM : ClassId) (cH : ClassId) (cW : ClassId) (cL : ClassId) (cB : ClassId) (cS : ClassId) (em : TreeV) (pl : va_W) (cm : Nat → Option ComV) (tm : Nat → Option TreeV) (hpl : zpool pl cm tm) (σ : VSt) (k : Int32) (j : Int32) (v : Int64) (hres : f_V_value em cm tm σ k j = some v) : Met l y_V_value w_V_value ({ frames := 2, cells := 0, slots := 0, locals := 44 } : Room) (va_Pc ([.ref (q 0), .int k, .int j]) (zro D [(cM, .object R_C), (cH, .int), (cW, .boolean), (cL, .int), (cB, .int), (cS, .object R_T)] (zX q cM cH cW cL cB cS em σ ++ pl))) (vp_Sl (fun r : Int64 => r = v)) 0 0 (fun _ => False) := by
  refine Met.ofW (cc := b_V_value) (maxL := 5) (ret := (some .long)) (by decide) rfl ?_
  intro p e s m args below meth c s₁ B hml hv
  obtain ⟨rfl, hP, hK, hN⟩ := hv
  have hx := B.exec
  have hb := B.bytes
  have hr := B.returns
  have hts : ∀ w ∈ zt, w.before ([.ref (q 0), .int k, .int j].toArray) s = true := fun w h => atoms_spec (ws := w_V_value) B.pre w (List.mem_cons_of_mem _ h)
  have hown : s.vm.findClass R_V = some m.cls := findClass_of_methodNamed B.named
  have hlocks := B.notSynchronized
  have hl := lv_entry ([.ref (q 0), .int k, .int j]) (n := 5) (Nat.le_of_ble_eq_true rfl)
  rw [lg_entry_eq]
  generalize (lg_sl ([.ref (q 0), .int k, .int j]) ++ List.replicate (5 - (lg_sl ([.ref (q 0), .int k, .int j])).length) Slot.unset).toArray = ls at hl ⊢
  have hl : lv_has ls 5 [(0, .ref (q 0)), (1, .int k), (2, .int j)] := hl
  unfold f_V_value at hres
  refine lv_aload_n hx hb d_V_value_0 rfl (lv_at hl 0 rfl) ?_
  refine lv_iload_n hx hb d_V_value_1 rfl (lv_at hl 1 rfl) ?_
  obtain ⟨v2, hc2, hres⟩ := zo_b hres
  refine va_csq (va_Run.run (va_runV (As := [.int k]) (rest := []) ⟨hx, hb, hml, hown, hts⟩ (c_V_commitAt l D [(cM, .object R_C), (cH, .int), (cW, .boolean), (cL, .int), (cB, .int), (cS, .object R_T)] q cM cH cW cL cB cS em pl cm tm hpl σ k v2 hc2) (cwV 1 hts (zg_V k_179 k_181 k_0 k_29 g_V_commitAt) rfl rfl rfl ⟨rfl, hd_V_commitAt⟩ ⟨Nat.le_of_ble_eq_true rfl, Nat.le_of_ble_eq_true rfl⟩) ⟨zro_b _, va_recv hK hP (q0 := 0) rfl rfl, zro_p hP hK hN _⟩ rfl rfl hl.1 rfl (lv_room (Nat.le_of_ble_eq_true rfl)) d_V_value_2 ⟨Nat.zero_le _, Nat.zero_le _⟩)) (fun r_2 er_2 => ?_)
  have er_2 := er_2.symm
  subst er_2
  rcases hq_2 : v2 with _ | y_2
  · have hres := zo_n hq_2 hres
    refine lv_astore_nN (lv' := [(3, .null), (0, .ref (q 0)), (1, .int k), (2, .int j)]) hx hb d_V_value_5 rfl hl (by decide) rfl (fun ls hl => ?_)
    refine lv_aload_nN hx hb d_V_value_6 rfl (lv_at hl 0 rfl) ?_
    refine lv_ifnonnullN hx hb d_V_value_7 ?_
    refine lv_ldc2 (v := (-1)) hx hb hown (hts _ k_318) d_V_value_10 ?_
    obtain rfl := Option.some.inj hres
    exact W.lret (v := (-1)) hx hb hr (fun t ht hW => ⟨_, rfl, rfl, ht⟩) (fun _ hq => by cases hq) d_V_value_13
  · have hres := zo_s hq_2 hres
    refine lv_astore_n (lv' := [(3, .ref y_2), (0, .ref (q 0)), (1, .int k), (2, .int j)]) hx hb d_V_value_5 rfl hl (by decide) rfl (fun ls hl => ?_)
    refine lv_aload_n hx hb d_V_value_6 rfl (lv_at hl 0 rfl) ?_
    refine lv_ifnonnull (tgt := 14) hx hb d_V_value_7 (by decide) ?_
    refine lv_aload_n hx hb d_V_value_14 rfl (lv_at hl 0 rfl) ?_
    obtain ⟨o_15, ho_15, hres⟩ := zo_b hres
    obtain ⟨ko_15, hko_15⟩ := hpl.1 _ _ ho_15
    refine va_get (D := D) (ci := 1) (v := .ref o_15.2.2.2.2.1) (C := R_C) (T := T_C) (N := 7) hx hb hts in_C hown hK hP (15 + ko_15) (zpl_get hko_15) rfl 4 (by decide) (hts _ k_259) (fun _ h9 => h9) rfl d_V_value_15 ?_
    refine lv_astore (lv' := [(4, .ref o_15.2.2.2.2.1), (3, .ref y_2), (0, .ref (q 0)), (1, .int k), (2, .int j)]) hx hb d_V_value_18 hl (by decide) rfl (fun ls hl => ?_)
    refine lv_iload_n hx hb d_V_value_20 rfl (lv_at hl 4 rfl) ?_
    by_cases c_21_0 : j = 0
    · have hres := zi_p c_21_0 hres
      refine lv_tableIn (off := 55) (tgt := 76) hx hb d_V_value_21 (by rw [c_21_0]; decide) (by rw [c_21_0]; decide) (by rw [c_21_0]; decide) (by decide) ?_
      refine lv_aload hx hb d_V_value_76 (lv_at hl 0 rfl) ?_
      obtain ⟨o_78, ho_78, hres⟩ := zo_b hres
      obtain ⟨ko_78, hko_78⟩ := hpl.2 _ _ ho_78
      refine va_get (D := D) (ci := 0) (v := .long o_78.1) (C := R_T) (T := T_T) (N := 10) hx hb hts in_T hown hK hP (15 + ko_78) (zpl_get hko_78) rfl 0 (by decide) (hts _ k_58) (fun _ h9 => h9) rfl d_V_value_78 ?_
      obtain rfl := Option.some.inj hres
      exact W.lret (v := o_78.1) hx hb hr (fun t ht hW => ⟨_, rfl, rfl, ht⟩) (fun _ hq => by cases hq) d_V_value_81
    · have hres := zi_n c_21_0 hres
      by_cases c_21_1 : j = 1
      · have hres := zi_p c_21_1 hres
        refine lv_tableIn (off := 61) (tgt := 82) hx hb d_V_value_21 (by rw [c_21_1]; decide) (by rw [c_21_1]; decide) (by rw [c_21_1]; decide) (by decide) ?_
        refine lv_aload hx hb d_V_value_82 (lv_at hl 0 rfl) ?_
        obtain ⟨o_84, ho_84, hres⟩ := zo_b hres
        obtain ⟨ko_84, hko_84⟩ := hpl.2 _ _ ho_84
        refine va_get (D := D) (ci := 0) (v := .int o_84.2.1) (C := R_T) (T := T_T) (N := 10) hx hb hts in_T hown hK hP (15 + ko_84) (zpl_get hko_84) rfl 1 (by decide) (hts _ k_63) (fun _ h9 => h9) rfl d_V_value_84 ?_
        refine lv_i2l (v := o_84.2.1.toInt64) hx hb d_V_value_87 rfl ?_
        obtain rfl := Option.some.inj hres
        exact W.lret (v := o_84.2.1.toInt64) hx hb hr (fun t ht hW => ⟨_, rfl, rfl, ht⟩) (fun _ hq => by cases hq) d_V_value_88
      · have hres := zi_n c_21_1 hres
        by_cases c_21_2 : j = 2
        · have hres := zi_p c_21_2 hres
          refine lv_tableIn (off := 68) (tgt := 89) hx hb d_V_value_21 (by rw [c_21_2]; decide) (by rw [c_21_2]; decide) (by rw [c_21_2]; decide) (by decide) ?_
          refine lv_aload hx hb d_V_value_89 (lv_at hl 0 rfl) ?_
          obtain ⟨o_91, ho_91, hres⟩ := zo_b hres
          obtain ⟨ko_91, hko_91⟩ := hpl.2 _ _ ho_91
          refine va_get (D := D) (ci := 0) (v := .int o_91.2.2.1) (C := R_T) (T := T_T) (N := 10) hx hb hts in_T hown hK hP (15 + ko_91) (zpl_get hko_91) rfl 2 (by decide) (hts _ k_68) (fun _ h9 => h9) rfl d_V_value_91 ?_
          refine lv_i2l (v := o_91.2.2.1.toInt64) hx hb d_V_value_94 rfl ?_
          obtain rfl := Option.some.inj hres
          exact W.lret (v := o_91.2.2.1.toInt64) hx hb hr (fun t ht hW => ⟨_, rfl, rfl, ht⟩) (fun _ hq => by cases hq) d_V_value_95
        · have hres := zi_n c_21_2 hres
          by_cases c_21_3 : j = 3
          · have hres := zi_p c_21_3 hres
            refine lv_tableIn (off := 75) (tgt := 96) hx hb d_V_value_21 (by rw [c_21_3]; decide) (by rw [c_21_3]; decide) (by rw [c_21_3]; decide) (by decide) ?_
            refine lv_aload hx hb d_V_value_96 (lv_at hl 0 rfl) ?_
            obtain ⟨o_98, ho_98, hres⟩ := zo_b hres
            obtain ⟨ko_98, hko_98⟩ := hpl.2 _ _ ho_98
            refine va_get (D := D) (ci := 0) (v := .int o_98.2.2.2.1) (C := R_T) (T := T_T) (N := 10) hx hb hts in_T hown hK hP (15 + ko_98) (zpl_get hko_98) rfl 3 (by decide) (hts _ k_73) (fun _ h9 => h9) rfl d_V_value_98 ?_
            refine lv_i2l (v := o_98.2.2.2.1.toInt64) hx hb d_V_value_101 rfl ?_
            obtain rfl := Option.some.inj hres
            exact W.lret (v := o_98.2.2.2.1.toInt64) hx hb hr (fun t ht hW => ⟨_, rfl, rfl, ht⟩) (fun _ hq => by cases hq) d_V_value_102
          · have hres := zi_n c_21_3 hres
            by_cases c_21_4 : j = 4
            · have hres := zi_p c_21_4 hres
              refine lv_tableIn (off := 82) (tgt := 103) hx hb d_V_value_21 (by rw [c_21_4]; decide) (by rw [c_21_4]; decide) (by rw [c_21_4]; decide) (by decide) ?_
              refine lv_aload hx hb d_V_value_103 (lv_at hl 0 rfl) ?_
              obtain ⟨o_105, ho_105, hres⟩ := zo_b hres
              obtain ⟨ko_105, hko_105⟩ := hpl.2 _ _ ho_105
              obtain ⟨v105, hc105, hres⟩ := zo_b hres
              have hPc := zsubP hP (wc := [(o_15.2.2.2.2.1, zcT o_105)]) (is := [15 + ko_105]) (zcons (zpl_get hko_105) znil)
              refine vp_callSl (va_Run.run (va_runV (As := []) (rest := []) ⟨hx, hb, hml, hown, hts⟩ (c_T_setAsSum l D [(cM, .object R_C), (cH, .int), (cW, .boolean), (cL, .int), (cB, .int), (cS, .object R_T)] o_15.2.2.2.2.1 o_105 v105 hc105) (cwV 0 hts (zg_V k_399 k_191 k_192 k_30 g_T_setAsSum) rfl rfl rfl ⟨rfl, hd_T_setAsSum⟩ ⟨Nat.le_of_ble_eq_true rfl, Nat.le_of_ble_eq_true rfl⟩) ⟨zro_b _, va_recv hK hPc (q0 := 0) rfl rfl, zro_p hPc hK hN _⟩ rfl rfl hl.1 rfl (lv_room (Nat.le_of_ble_eq_true rfl)) d_V_value_105 ⟨Nat.zero_le _, Nat.zero_le _⟩)) (fun r_105 er_105 => ?_)
              have er_105 := er_105.symm
              subst er_105
              obtain rfl := Option.some.inj hres
              exact W.lret (v := v105) hx hb hr (fun t ht hW => ⟨_, rfl, rfl, ht⟩) (fun _ hq => by cases hq) d_V_value_108
            · have hres := zi_n c_21_4 hres
              by_cases c_21_5 : j = 5
              · have hres := zi_p c_21_5 hres
                refine lv_tableIn (off := 88) (tgt := 109) hx hb d_V_value_21 (by rw [c_21_5]; decide) (by rw [c_21_5]; decide) (by rw [c_21_5]; decide) (by decide) ?_
                refine lv_aload hx hb d_V_value_109 (lv_at hl 0 rfl) ?_
                obtain ⟨o_111, ho_111, hres⟩ := zo_b hres
                obtain ⟨ko_111, hko_111⟩ := hpl.2 _ _ ho_111
                refine va_get (D := D) (ci := 0) (v := .long o_111.2.2.2.2.2.1) (C := R_T) (T := T_T) (N := 10) hx hb hts in_T hown hK hP (15 + ko_111) (zpl_get hko_111) rfl 5 (by decide) (hts _ k_81) (fun _ h9 => h9) rfl d_V_value_111 ?_
                obtain ⟨v114, hc114, hres⟩ := zo_b hres
                refine vp_callSi (va_Run.run (va_runS (As := [.long o_111.2.2.2.2.2.1]) (rest := []) ⟨hx, hb, hml, hown, hts⟩ (c_Q_length l D [(cM, .object R_C), (cH, .int), (cW, .boolean), (cL, .int), (cB, .int), (cS, .object R_T)] o_111.2.2.2.2.2.1 v114 hc114) (va_cwS 1 hts (zg_S k_400 k_206 k_34 g_Q_length) rfl rfl rfl hd_Q_length ⟨Nat.le_of_ble_eq_true rfl, Nat.le_of_ble_eq_true rfl⟩) ⟨zro_b _, zro_p va_Pnil hK hN _⟩ rfl rfl hl.1 rfl (lv_room (Nat.le_of_ble_eq_true rfl)) d_V_value_114 ⟨Nat.zero_le _, Nat.zero_le _⟩)) (fun r_114 er_114 => ?_)
                have er_114 := er_114.symm
                subst er_114
                refine lv_i2l (v := v114.toInt64) hx hb d_V_value_117 rfl ?_
                obtain rfl := Option.some.inj hres
                exact W.lret (v := v114.toInt64) hx hb hr (fun t ht hW => ⟨_, rfl, rfl, ht⟩) (fun _ hq => by cases hq) d_V_value_118
              · have hres := zi_n c_21_5 hres
                by_cases c_21_6 : j = 6
                · have hres := zi_p c_21_6 hres
                  refine lv_tableIn (off := 98) (tgt := 119) hx hb d_V_value_21 (by rw [c_21_6]; decide) (by rw [c_21_6]; decide) (by rw [c_21_6]; decide) (by decide) ?_
                  refine lv_aload hx hb d_V_value_119 (lv_at hl 0 rfl) ?_
                  obtain ⟨o_121, ho_121, hres⟩ := zo_b hres
                  obtain ⟨ko_121, hko_121⟩ := hpl.2 _ _ ho_121
                  refine va_get (D := D) (ci := 0) (v := .long o_121.2.2.2.2.2.2.2.1) (C := R_T) (T := T_T) (N := 10) hx hb hts in_T hown hK hP (15 + ko_121) (zpl_get hko_121) rfl 7 (by decide) (hts _ k_91) (fun _ h9 => h9) rfl d_V_value_121 ?_
                  obtain rfl := Option.some.inj hres
                  exact W.lret (v := o_121.2.2.2.2.2.2.2.1) hx hb hr (fun t ht hW => ⟨_, rfl, rfl, ht⟩) (fun _ hq => by cases hq) d_V_value_124
                · have hres := zi_n c_21_6 hres
                  by_cases c_21_7 : j = 7
                  · have hres := zi_p c_21_7 hres
                    refine lv_tableIn (off := 104) (tgt := 125) hx hb d_V_value_21 (by rw [c_21_7]; decide) (by rw [c_21_7]; decide) (by rw [c_21_7]; decide) (by decide) ?_
                    refine lv_aload hx hb d_V_value_125 (lv_at hl 0 rfl) ?_
                    obtain ⟨o_127, ho_127, hres⟩ := zo_b hres
                    obtain ⟨ko_127, hko_127⟩ := hpl.2 _ _ ho_127
                    refine va_get (D := D) (ci := 0) (v := .int o_127.2.2.2.2.2.2.1) (C := R_T) (T := T_T) (N := 10) hx hb hts in_T hown hK hP (15 + ko_127) (zpl_get hko_127) rfl 6 (by decide) (hts _ k_86) (fun _ h9 => h9) rfl d_V_value_127 ?_
                    refine lv_if_eq (tgt := 137) hx hb d_V_value_130 (by decide) (fun c_130 => ?_) (fun c_130 => ?_)
                    · have hres := zi_p c_130 hres
                      refine lv_lconst (v := 0) hx hb d_V_value_137 (by decide) ?_
                      obtain rfl := Option.some.inj hres
                      exact W.lret (v := 0) hx hb hr (fun t ht hW => ⟨_, rfl, rfl, ht⟩) (fun _ hq => by cases hq) d_V_value_138
                    · have hres := zi_n c_130 hres
                      refine lv_lconst (v := 1) hx hb d_V_value_133 (by decide) ?_
                      refine lv_goto (tgt := 138) hx hb d_V_value_134 (by decide) ?_
                      obtain rfl := Option.some.inj hres
                      exact W.lret (v := 1) hx hb hr (fun t ht hW => ⟨_, rfl, rfl, ht⟩) (fun _ hq => by cases hq) d_V_value_138
                  · have hres := zi_n c_21_7 hres
                    by_cases c_21_8 : j = 8
                    · have hres := zi_p c_21_8 hres
                      refine lv_tableIn (off := 118) (tgt := 139) hx hb d_V_value_21 (by rw [c_21_8]; decide) (by rw [c_21_8]; decide) (by rw [c_21_8]; decide) (by decide) ?_
                      refine lv_aload hx hb d_V_value_139 (lv_at hl 0 rfl) ?_
                      obtain ⟨o_141, ho_141, hres⟩ := zo_b hres
                      obtain ⟨ko_141, hko_141⟩ := hpl.2 _ _ ho_141
                      refine va_get (D := D) (ci := 0) (v := .long o_141.2.2.2.2.2.2.2.2.1) (C := R_T) (T := T_T) (N := 10) hx hb hts in_T hown hK hP (15 + ko_141) (zpl_get hko_141) rfl 8 (by decide) (hts _ k_96) (fun _ h9 => h9) rfl d_V_value_141 ?_
                      obtain rfl := Option.some.inj hres
                      exact W.lret (v := o_141.2.2.2.2.2.2.2.2.1) hx hb hr (fun t ht hW => ⟨_, rfl, rfl, ht⟩) (fun _ hq => by cases hq) d_V_value_144
                    · have hres := zi_n c_21_8 hres
                      by_cases c_21_9 : j = 9
                      · have hres := zi_p c_21_9 hres
                        refine lv_tableIn (off := 124) (tgt := 145) hx hb d_V_value_21 (by rw [c_21_9]; decide) (by rw [c_21_9]; decide) (by rw [c_21_9]; decide) (by decide) ?_
                        refine lv_aload hx hb d_V_value_145 (lv_at hl 0 rfl) ?_
                        obtain ⟨o_147, ho_147, hres⟩ := zo_b hres
                        obtain ⟨ko_147, hko_147⟩ := hpl.2 _ _ ho_147
                        refine va_get (D := D) (ci := 0) (v := .int o_147.2.2.2.2.2.2.2.2.2) (C := R_T) (T := T_T) (N := 10) hx hb hts in_T hown hK hP (15 + ko_147) (zpl_get hko_147) rfl 9 (by decide) (hts _ k_101) (fun _ h9 => h9) rfl d_V_value_147 ?_
                        refine lv_i2l (v := o_147.2.2.2.2.2.2.2.2.2.toInt64) hx hb d_V_value_150 rfl ?_
                        obtain rfl := Option.some.inj hres
                        exact W.lret (v := o_147.2.2.2.2.2.2.2.2.2.toInt64) hx hb hr (fun t ht hW => ⟨_, rfl, rfl, ht⟩) (fun _ hq => by cases hq) d_V_value_151
                      · have hres := zi_n c_21_9 hres
                        have e_21_0 := lv_neT c_21_0 (a := 0) (by decide)
                        have e_21_1 := lv_neT c_21_1 (a := 1) (by decide)
                        have e_21_2 := lv_neT c_21_2 (a := 2) (by decide)
                        have e_21_3 := lv_neT c_21_3 (a := 3) (by decide)
                        have e_21_4 := lv_neT c_21_4 (a := 4) (by decide)
                        have e_21_5 := lv_neT c_21_5 (a := 5) (by decide)
                        have e_21_6 := lv_neT c_21_6 (a := 6) (by decide)
                        have e_21_7 := lv_neT c_21_7 (a := 7) (by decide)
                        have e_21_8 := lv_neT c_21_8 (a := 8) (by decide)
                        have e_21_9 := lv_neT c_21_9 (a := 9) (by decide)
                        refine lv_tableOut (tgt := 152) hx hb d_V_value_21 (by omega) (by decide) ?_
                        refine lv_ldc2 (v := (-1)) hx hb hown (hts _ k_318) d_V_value_152 ?_
                        obtain rfl := Option.some.inj hres
                        exact W.lret (v := (-1)) hx hb hr (fun t ht hW => ⟨_, rfl, rfl, ht⟩) (fun _ hq => by cases hq) d_V_value_155

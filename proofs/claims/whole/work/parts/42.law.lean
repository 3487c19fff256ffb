-- ===== end of PART A; then your names; then what follows =====
/-! THE CLAIM OUT OF ONE WALK OF THE LAW'S BODY. Your part is whole_start (and what it stands on); all else here is the same for every law, but numbers. -/
def R_law : String := "MergeVaultLaw"
def lw_P (b : Addr) (xs : List Int32) (args : Array Value) (s : State) : Prop := args = #[.ref b] ∧ s.IntsAt b xs ∧ xs.length ≤ 2560 ∧ (Jvm.Cond.and given_1 narrow_1).before args s = true
def lw_Q (_ : Array Value) (s : State) (o : Outcome) (t : State) : Prop := o = .returned (some (.int 1)) ∧ Framed s o t [] 600000 7302250
def lw_Z (below : List Frame) (a : Array Value) (s : State) : State → Prop := fun t => ∃ o, t.status = .running ∧ Ended t below o ∧ lw_Q a s o t
/-- the law's own end, with 1 on the stack, nothing written that was there before, its room as the claim has it -/
theorem lw_ret {p : Program} {l : Launch} {e : Env} {s : State} {m : MethodId} {below : List Frame} {meth : Method} {c : Code} {b : Nat} (hx : p.tables.exec = Jvm.exec) (hb : c.code = code) (hr : meth.sig.returnType = ret) (hlocks : meth.locks = false) {pc : Nat} {H : Heap} {ls : Array Slot} (hdg : decode code pc = .ok (.ireturn, 1)) : W p l e room_1 s m #[Value.ref b] below meth c H [] 600000 7302250 (lw_Z below #[Value.ref b] s) (F0 m pc ls [.int 1]) := by
  intro T hT X
  obtain ⟨fs, hret, hrun, hended, hW, hframe⟩ := X.leave (v := some (.int 1)) (hlocks := hlocks) (fun h => by rw [hr] at h; cases h)
  have hmeth' : T.vm.method? m = some meth := X.method'
  refine ⟨T.setFrames fs, ?_, .returned (some (.int 1)), hrun, hended, rfl, ⟨_, rfl⟩, hW, hframe⟩
  jvm_step X.here [X.here.top, hx, hb, hdg, hmeth', hr, ret, narrow_b1]
  (try refine ⟨rfl, ?_⟩); (try refine ⟨rfl, ?_⟩)
  first | (intro acts; rw [hret _ acts rfl rfl rfl]) | rw [hret _ _ rfl rfl rfl]
  exact Steps.refl _
/-- what holds at the law's entry: the machine, the code, the tables' words (any of lw_tbl by 'hts w (by decide +kernel)'), the script of L ints xs at the cell b, what the Statement gives of the start (any of its parts by flat_of_before) -/
def lw_At (p : Program) (s : State) (m : MethodId) (meth : Method) (c : Code) (b L : Nat) (xs : Nat → Int32) : Prop :=
  p.tables.exec = Jvm.exec ∧ c.code = code ∧ meth.sig.returnType = ret ∧ c.maxLocals = 4 ∧ s.vm.findClass R_law = some m.cls ∧ (∀ w ∈ lw_tbl, w.before #[Value.ref b] s = true) ∧ va_X b L xs s s.heap ∧ b < s.heap.size ∧ meth.locks = false ∧ (Jvm.Cond.and given_1 narrow_1).before #[Value.ref b] s = true
theorem zlg (x : Int64) : lg_cmp x x = 0 := by simp [lg_cmp]
def zs_change (Inv : ZI) : Prop := ∀ (a b : Int32) (x : Int64), zst_mk Inv (fun cm tm σ qn => f_V_change qn zT0 cm tm σ a b x) (fun ρ => f_R_change ρ a b x)
def zs_fork (Inv : ZI) : Prop := ∀ (a b : Int32), zst_rw Inv (fun cm tm σ => f_V_fork zT0 cm tm σ a b) (fun ρ => f_R_fork ρ a b)
def zs_swap (Inv : ZI) : Prop := ∀ (a b d : Int32), zst_rw Inv (fun cm tm σ => f_V_swap zT0 cm tm σ a b d) (fun ρ => f_R_swap ρ a b d)
def zs_merge (Inv : ZI) : Prop := ∀ (a b : Int32), zst_mk Inv (fun cm tm σ qn => f_V_merge qn zT0 cm tm σ a b) (fun ρ => f_R_merge ρ a b)
def zs_watch (Inv : ZI) : Prop := ∀ (a b : Int32) (hz : b = 0 ∨ b = 1), zst_rw Inv (fun cm tm σ => f_V_watch zT0 cm tm σ a b) (fun ρ => f_R_watch ρ a b)
def zs_head (Inv : ZI) : Prop := ∀ (a : Int32), zst_ro Inv (fun cm tm σ => f_V_head zT0 cm tm σ a) (fun ρ => f_R_head ρ a)
def zs_commits (Inv : ZI) : Prop := zst_ro Inv (fun cm tm σ => f_V_commits zT0 cm tm σ) (fun ρ => f_R_commits ρ)
def zs_parent (Inv : ZI) : Prop := ∀ (a b : Int32), zst_ro Inv (fun cm tm σ => f_V_parent zT0 cm tm σ a b) (fun ρ => f_R_parent ρ a b)
def zs_ancestors (Inv : ZI) : Prop := ∀ (a : Int32), zst_ro Inv (fun cm tm σ => f_V_ancestors zT0 cm tm σ a) (fun ρ => f_R_ancestors ρ a)
def zs_meet (Inv : ZI) : Prop := ∀ (a b d : Int32), zst_ro Inv (fun cm tm σ => f_V_meet zT0 cm tm σ a b d) (fun ρ => f_R_meet ρ a b d)
def zs_value (Inv : ZI) : Prop := ∀ (a b : Int32), zst_ro Inv (fun cm tm σ => f_V_value zT0 cm tm σ a b) (fun ρ => f_R_value ρ a b)
def zs_queued (Inv : ZI) : Prop := ∀ (a b : Int32), zst_ro Inv (fun cm tm σ => f_V_queued zT0 cm tm σ a b) (fun ρ => f_R_queued ρ a b)
def zs_time (Inv : ZI) : Prop := ∀ (a : Int32), zst_ro Inv (fun cm tm σ => f_V_time zT0 cm tm σ a) (fun ρ => f_R_time ρ a)
def zs_hash (Inv : ZI) : Prop := ∀ (a : Int32), zst_ro Inv (fun cm tm σ => f_V_hash zT0 cm tm σ a) (fun ρ => f_R_hash ρ a)
def zs_events (Inv : ZI) : Prop := zst_ro Inv (fun cm tm σ => f_V_events zT0 cm tm σ) (fun ρ => f_R_events ρ)
def zs_event (Inv : ZI) : Prop := ∀ (a : Int32), zst_ro Inv (fun cm tm σ => f_V_event zT0 cm tm σ a) (fun ρ => f_R_event ρ a)
def zSteps (Inv : ZI) : Prop := zs_change Inv ∧ zs_fork Inv ∧ zs_swap Inv ∧ zs_merge Inv ∧ zs_watch Inv ∧ zs_head Inv ∧ zs_commits Inv ∧ zs_parent Inv ∧ zs_ancestors Inv ∧ zs_meet Inv ∧ zs_value Inv ∧ zs_queued Inv ∧ zs_time Inv ∧ zs_hash Inv ∧ zs_events Inv ∧ zs_event Inv
set_option maxHeartbeats 4000000 in
set_option maxRecDepth 100000 in
theorem law_loop {p : Program} {l : Launch} {e : Env} {s : State} {m : MethodId} {below : List Frame} {meth : Method} {c : Code} {D : va_G} {b L : Nat} {xs : Nat → Int32} (hL : L ≤ 2560) (C0 : lw_At p s m meth c b L xs) (hN : zNw s) (q : Nat → Nat) (cM cH cW cL cB cS : ClassId) (qr : Nat → Nat) (cR : Nat → ClassId) (hKV : va_K D vwCl [(cM, .object R_C), (cH, .int), (cW, .boolean), (cL, .int), (cB, .int), (cS, .object R_T)] s) (hKR : va_K D vwCl (zRt cR) s) (Inv : ZI) (hst : zSteps Inv) :
    ∀ (n j : Nat), 5 * j ≤ L + 5 → j ≤ 512 → 513 ≤ j + n → ∀ (σ : VSt) (ρ : RSt) (cm : Nat → Option ComV) (tm : Nat → Option TreeV) (pl : va_W) (H : Heap) (locs : List Loc), zpool pl cm tm → Inv σ ρ cm tm → va_P D vwCl (zR qr cR ρ ++ (zX q cM cH cW cL cB cS zT0 σ ++ pl)) H → va_D (fun q : Nat => s.heap.size ≤ q) (zR qr cR ρ ++ (zX q cM cH cW cL cB cS zT0 σ ++ pl)) → va_S (fun q : Nat => s.heap.size ≤ q) s.heap H locs → ∀ (ls : Array Slot), lv_has ls 4 [(0, .ref b), (1, .ref (q 0)), (2, .ref (qr 0)), (3, .int (nI (5 * j)))] → W p l e room_1 s m #[Value.ref b] below meth c H locs (37 + 2 * j) (1862 + 17 * j) (lw_Z below #[Value.ref b] s) (F0 m 18 ls []) := by
  obtain ⟨hx, hb, hr, hml, hown, hts0, hX, hbl, hlocks, hgv⟩ := C0
  have hts : ∀ w ∈ zt, w.before #[Value.ref b] s = true := fun w h => hts0 w (List.mem_filter.mp h).1
  have hA : ∀ q : Nat, s.heap.size ≤ q → (fun q : Nat => s.heap.size ≤ q) q := fun _ h => h
  have hbA : ¬ (fun q : Nat => s.heap.size ≤ q) b := Nat.not_le.mpr hbl
  obtain ⟨hst_change, hst_fork, hst_swap, hst_merge, hst_watch, hst_head, hst_commits, hst_parent, hst_ancestors, hst_meet, hst_value, hst_queued, hst_time, hst_hash, hst_events, hst_event⟩ := hst
  intro n
  induction n with
  | zero => intro j h1 h2 h3; omega
  | succ n ih =>
    intro j hj5 hj hjn σ ρ cm tm pl H locs hpl hInv hP hD hS ls hl
    generalize ex : nI (5 * j) = x at hl
    refine lv_iload_n hx hb d_L_law_18 rfl (lv_at hl 3 rfl) ?_
    refine lv_aload_n hx hb d_L_law_19 rfl (lv_at hl 0 rfl) ?_
    refine va_slen hx hb hX hbl hbA hS d_L_law_20 ?_
    refine lv_iconst (v := 5) hx hb d_L_law_21 (by decide) ?_
    refine lv_isub hx hb d_L_law_22 ?_
    refine lv_icmp_gt (tgt := 634) hx hb d_L_law_23 (by decide) (fun c9 => ?_) (fun c9 => ?_)
    · refine lv_iconst (v := 1) hx hb d_L_law_634 (by decide) ?_
      refine va_forget (fun q hq => hS.2.2 q hq) ?_
      refine W.widen (k := 600000) (n := 7302250) (by omega) (by omega) ?_
      exact lw_ret hx hb hr hlocks d_L_law_635
    have h5 : 5 * j + 5 ≤ L := zlw_ex hL (by omega) (by rw [ex]; exact c9)
    have hj2 : j < 512 := by omega
    have hi0 : vp_in x L := by rw [← ex]; exact vp_in_nI (by omega) (by omega)
    have hi1 : vp_in (x + 1) L := by rw [← ex]; exact zlw_in (k := 1) hL h5 (by decide)
    have hi2 : vp_in (x + 2) L := by rw [← ex]; exact zlw_in (k := 2) hL h5 (by decide)
    have hi3 : vp_in (x + 3) L := by rw [← ex]; exact zlw_in (k := 3) hL h5 (by decide)
    have hi4 : vp_in (x + 4) L := by rw [← ex]; exact zlw_in (k := 4) hL h5 (by decide)
    have hf0 : 37 + 2 * j + 0 ≤ room_1.cells ∧ 1862 + 17 * j + 0 ≤ room_1.slots := ⟨by show _ ≤ 600000; omega, by show _ ≤ 7302250; omega⟩
    have hf2 : 37 + 2 * j + 2 ≤ room_1.cells ∧ 1862 + 17 * j + 17 ≤ room_1.slots := ⟨by show _ ≤ 600000; omega, by show _ ≤ 7302250; omega⟩
    have hend : ∀ (σ : VSt) (ρ : RSt) (cm : Nat → Option ComV) (tm : Nat → Option TreeV) (pl : va_W) (H : Heap) (locs : List Loc), zpool pl cm tm → Inv σ ρ cm tm → va_P D vwCl (zR qr cR ρ ++ (zX q cM cH cW cL cB cS zT0 σ ++ pl)) H → va_D (fun q : Nat => s.heap.size ≤ q) (zR qr cR ρ ++ (zX q cM cH cW cL cB cS zT0 σ ++ pl)) → va_S (fun q : Nat => s.heap.size ≤ q) s.heap H locs → ∀ (ls : Array Slot), lv_has ls 4 [(0, .ref b), (1, .ref (q 0)), (2, .ref (qr 0)), (3, .int x)] → W p l e room_1 s m #[Value.ref b] below meth c H locs (37 + 2 * j + 2) (1862 + 17 * j + 17) (lw_Z below #[Value.ref b] s) (F0 m 628 ls []) := by
      intro σ ρ cm tm pl H locs hpl hInv hP hD hS ls hl
      refine lv_iinc (v := nI (5 * (j + 1))) (lv' := [(3, .int (nI (5 * (j + 1)))), (0, .ref b), (1, .ref (q 0)), (2, .ref (qr 0))]) hx hb d_L_law_628 hl (k := 3) rfl (by rw [← ex, show 5 * (j + 1) = 5 * j + 5 by omega, ← nI_add]; rfl) (by decide) rfl (fun ls hl => ?_)
      refine lv_goto (tgt := 18) hx hb d_L_law_631 (by decide) ?_
      exact ih (j + 1) (by omega) (by omega) (by omega) σ ρ cm tm pl H locs hpl hInv hP hD hS ls (lv_sub hl [1, 2, 3, 0] rfl)
    refine lv_aload_n hx hb d_L_law_26 rfl (lv_at hl 0 rfl) ?_
    refine lv_iload_n hx hb d_L_law_27 rfl (lv_at hl 3 rfl) ?_
    refine va_sld hx hb hX hbl hbA hS hi0 d_L_law_28 ?_
    refine lv_bipush (v := 15) hx hb d_L_law_29 (by decide) ?_
    refine lv_iand hx hb d_L_law_31 ?_
    by_cases c_32_0 : ((xs (x).toNatClampNeg) &&& 15) = 0
    · skip
      refine lv_tableIn (off := 80) (tgt := 112) hx hb d_L_law_32 (by rw [c_32_0]; decide) (by rw [c_32_0]; decide) (by rw [c_32_0]; decide) (by decide) ?_
      refine lv_aload_n hx hb d_L_law_112 rfl (lv_at hl 1 rfl) ?_
      refine lv_aload_n hx hb d_L_law_113 rfl (lv_at hl 0 rfl) ?_
      refine lv_iload_n hx hb d_L_law_114 rfl (lv_at hl 3 rfl) ?_
      refine lv_iconst (v := 1) hx hb d_L_law_115 (by decide) ?_
      refine lv_iadd hx hb d_L_law_116 ?_
      refine va_sld hx hb hX hbl hbA hS hi1 d_L_law_117 ?_
      refine lv_aload_n hx hb d_L_law_118 rfl (lv_at hl 0 rfl) ?_
      refine lv_iload_n hx hb d_L_law_119 rfl (lv_at hl 3 rfl) ?_
      refine lv_iconst (v := 2) hx hb d_L_law_120 (by decide) ?_
      refine lv_iadd hx hb d_L_law_121 ?_
      refine va_sld hx hb hX hbl hbA hS hi2 d_L_law_122 ?_
      refine lv_aload_n hx hb d_L_law_123 rfl (lv_at hl 0 rfl) ?_
      refine lv_iload_n hx hb d_L_law_124 rfl (lv_at hl 3 rfl) ?_
      refine lv_iconst (v := 3) hx hb d_L_law_125 (by decide) ?_
      refine lv_iadd hx hb d_L_law_126 ?_
      refine va_sld hx hb hX hbl hbA hS hi3 d_L_law_127 ?_
      refine lv_i2l (v := (xs (x + 3).toNatClampNeg).toInt64) hx hb d_L_law_128 rfl ?_
      refine lv_bipush (v := 32) hx hb d_L_law_129 (by decide) ?_
      refine lv_lshl (v := (zs_l ((xs (x + 3).toNatClampNeg).toInt64) 32)) hx hb d_L_law_131 rfl ?_
      refine lv_aload_n hx hb d_L_law_132 rfl (lv_at hl 0 rfl) ?_
      refine lv_iload_n hx hb d_L_law_133 rfl (lv_at hl 3 rfl) ?_
      refine lv_iconst (v := 4) hx hb d_L_law_134 (by decide) ?_
      refine lv_iadd hx hb d_L_law_135 ?_
      refine va_sld hx hb hX hbl hbA hS hi4 d_L_law_136 ?_
      refine lv_i2l (v := (xs (x + 4).toNatClampNeg).toInt64) hx hb d_L_law_137 rfl ?_
      refine lv_ldc2 (v := 4294967295) hx hb hown (hts _ k_658) d_L_law_138 ?_
      refine lv_land hx hb d_L_law_141 ?_
      refine lv_lor hx hb d_L_law_142 ?_
      obtain ⟨v, w, hcV, hcR, heq, hI⟩ := hst_change (xs (x + 1).toNatClampNeg) (xs (x + 2).toNatClampNeg) ((zs_l ((xs (x + 3).toNatClampNeg).toInt64) 32) ||| ((xs (x + 4).toNatClampNeg).toInt64 &&& 4294967295)) σ ρ cm tm hInv
      refine zhr_i (U := Nat × Nat) (post := fun u => (v u).1) (wb' := fun u => zX q cM cH cW cL cB cS zT0 (v u).2.1 ++ zpn pl u (v u).2.2) (va_runV (As := [.int (xs (x + 1).toNatClampNeg), .int (xs (x + 2).toNatClampNeg), .long ((zs_l ((xs (x + 3).toNatClampNeg).toInt64) 32) ||| ((xs (x + 4).toNatClampNeg).toInt64 &&& 4294967295))]) (rest := []) ⟨hx, hb, hml, hown, hts⟩ (c_V_change l D [] _ q cM cH cW cL cB cS zT0 pl cm tm hpl σ (xs (x + 1).toNatClampNeg) (xs (x + 2).toNatClampNeg) ((zs_l ((xs (x + 3).toNatClampNeg).toInt64) 32) ||| ((xs (x + 4).toNatClampNeg).toInt64 &&& 4294967295)) v hcV) (cwV 3 hts (zg_V k_167 k_168 k_169 k_29 g_V_change) rfl rfl rfl ⟨rfl, hd_V_change⟩ ⟨Nat.le_of_ble_eq_true rfl, Nat.le_of_ble_eq_true rfl⟩) ⟨zrw_b _, va_recv hKV (zPr hP) (q0 := 0) rfl rfl, zrw_w (zPr hP) (zDr hD) hKV hN _⟩ rfl rfl hl.1 rfl (lv_room (Nat.le_of_ble_eq_true rfl)) d_L_law_143 hf2) hP hD hS hA (fun qn H locs hP hD hS => ?_)
      have hfr : zFr cm tm qn (v qn).2.2 := zFr_of hpl qn _ (zDr hD)
      have hP : va_P D vwCl (zR qr cR ρ ++ (zX q cM cH cW cL cB cS zT0 ((v qn).2.1) ++ (zpn pl qn (v qn).2.2))) H := hP
      have hD : va_D (fun q : Nat => s.heap.size ≤ q) (zR qr cR ρ ++ (zX q cM cH cW cL cB cS zT0 ((v qn).2.1) ++ (zpn pl qn (v qn).2.2))) := hD
      refine lv_aload_n hx hb d_L_law_146 rfl (lv_at hl 2 rfl) ?_
      refine lv_aload_n hx hb d_L_law_147 rfl (lv_at hl 0 rfl) ?_
      refine lv_iload_n hx hb d_L_law_148 rfl (lv_at hl 3 rfl) ?_
      refine lv_iconst (v := 1) hx hb d_L_law_149 (by decide) ?_
      refine lv_iadd hx hb d_L_law_150 ?_
      refine va_sld hx hb hX hbl hbA hS hi1 d_L_law_151 ?_
      refine lv_aload_n hx hb d_L_law_152 rfl (lv_at hl 0 rfl) ?_
      refine lv_iload_n hx hb d_L_law_153 rfl (lv_at hl 3 rfl) ?_
      refine lv_iconst (v := 2) hx hb d_L_law_154 (by decide) ?_
      refine lv_iadd hx hb d_L_law_155 ?_
      refine va_sld hx hb hX hbl hbA hS hi2 d_L_law_156 ?_
      refine lv_aload_n hx hb d_L_law_157 rfl (lv_at hl 0 rfl) ?_
      refine lv_iload_n hx hb d_L_law_158 rfl (lv_at hl 3 rfl) ?_
      refine lv_iconst (v := 3) hx hb d_L_law_159 (by decide) ?_
      refine lv_iadd hx hb d_L_law_160 ?_
      refine va_sld hx hb hX hbl hbA hS hi3 d_L_law_161 ?_
      refine lv_i2l (v := (xs (x + 3).toNatClampNeg).toInt64) hx hb d_L_law_162 rfl ?_
      refine lv_bipush (v := 32) hx hb d_L_law_163 (by decide) ?_
      refine lv_lshl (v := (zs_l ((xs (x + 3).toNatClampNeg).toInt64) 32)) hx hb d_L_law_165 rfl ?_
      refine lv_aload_n hx hb d_L_law_166 rfl (lv_at hl 0 rfl) ?_
      refine lv_iload_n hx hb d_L_law_167 rfl (lv_at hl 3 rfl) ?_
      refine lv_iconst (v := 4) hx hb d_L_law_168 (by decide) ?_
      refine lv_iadd hx hb d_L_law_169 ?_
      refine va_sld hx hb hX hbl hbA hS hi4 d_L_law_170 ?_
      refine lv_i2l (v := (xs (x + 4).toNatClampNeg).toInt64) hx hb d_L_law_171 rfl ?_
      refine lv_ldc2 (v := 4294967295) hx hb hown (hts _ k_658) d_L_law_172 ?_
      refine lv_land hx hb d_L_law_175 ?_
      refine lv_lor hx hb d_L_law_176 ?_
      refine zhl_i (U := Unit) (post := fun _ => w.1) (wa' := fun _ => zR qr cR w.2) (va_runV (As := [.int (xs (x + 1).toNatClampNeg), .int (xs (x + 2).toNatClampNeg), .long ((zs_l ((xs (x + 3).toNatClampNeg).toInt64) 32) ||| ((xs (x + 4).toNatClampNeg).toInt64 &&& 4294967295))]) (rest := [.int ((v qn).1)]) ⟨hx, hb, hml, hown, hts⟩ (c_R_change l D [] _ qr cR ρ (xs (x + 1).toNatClampNeg) (xs (x + 2).toNatClampNeg) ((zs_l ((xs (x + 3).toNatClampNeg).toInt64) 32) ||| ((xs (x + 4).toNatClampNeg).toInt64 &&& 4294967295)) w hcR) (cwV 3 hts (zg_V k_499 k_500 k_501 k_32 g_R_change) rfl rfl rfl ⟨rfl, hd_R_change⟩ ⟨Nat.le_of_ble_eq_true rfl, Nat.le_of_ble_eq_true rfl⟩) ⟨zrw_b _, va_recv hKR (zPl hP) (q0 := 0) rfl rfl, zrw_w (zPl hP) (zDl hD) hKR hN _⟩ rfl rfl hl.1 rfl (lv_room (Nat.le_of_ble_eq_true rfl)) d_L_law_177 hf2) hP hD hS hA (fun _ H locs hP hD hS => ?_)
      have hP : va_P D vwCl (zR qr cR w.2 ++ (zX q cM cH cW cL cB cS zT0 ((v qn).2.1) ++ (zpn pl qn (v qn).2.2))) H := hP
      have hD : va_D (fun q : Nat => s.heap.size ≤ q) (zR qr cR w.2 ++ (zX q cM cH cW cL cB cS zT0 ((v qn).2.1) ++ (zpn pl qn (v qn).2.2))) := hD
      refine lv_icmp_eq (tgt := 628) hx hb d_L_law_180 (by decide) (fun c_180 => ?_) (fun c_180 => ?_)
      · skip
        refine W.widen (k := 37 + 2 * j + 2) (n := 1862 + 17 * j + 17) (by omega) (by omega) ?_
        exact hend ((v qn).2.1) w.2 (zcm cm qn (v qn).2.2) (ztm tm qn (v qn).2.2) (zpn pl qn (v qn).2.2) _ _ (zpool_zpn hpl qn _) (hI qn hfr) hP hD hS ls (lv_sub hl [0, 1, 2, 3] rfl)
      · skip
        refine lv_iconst (v := 0) hx hb d_L_law_183 (by decide) ?_
        exact absurd (heq qn) c_180
    · skip
      by_cases c_32_1 : ((xs (x).toNatClampNeg) &&& 15) = 1
      · skip
        refine lv_tableIn (off := 153) (tgt := 185) hx hb d_L_law_32 (by rw [c_32_1]; decide) (by rw [c_32_1]; decide) (by rw [c_32_1]; decide) (by decide) ?_
        refine lv_aload_n hx hb d_L_law_185 rfl (lv_at hl 1 rfl) ?_
        refine lv_aload_n hx hb d_L_law_186 rfl (lv_at hl 0 rfl) ?_
        refine lv_iload_n hx hb d_L_law_187 rfl (lv_at hl 3 rfl) ?_
        refine lv_iconst (v := 1) hx hb d_L_law_188 (by decide) ?_
        refine lv_iadd hx hb d_L_law_189 ?_
        refine va_sld hx hb hX hbl hbA hS hi1 d_L_law_190 ?_
        refine lv_aload_n hx hb d_L_law_191 rfl (lv_at hl 0 rfl) ?_
        refine lv_iload_n hx hb d_L_law_192 rfl (lv_at hl 3 rfl) ?_
        refine lv_iconst (v := 2) hx hb d_L_law_193 (by decide) ?_
        refine lv_iadd hx hb d_L_law_194 ?_
        refine va_sld hx hb hX hbl hbA hS hi2 d_L_law_195 ?_
        obtain ⟨v, w, hcV, hcR, heq, hI⟩ := hst_fork (xs (x + 1).toNatClampNeg) (xs (x + 2).toNatClampNeg) σ ρ cm tm hInv
        refine zhr_i (U := Unit) (post := fun _ => v.1) (wb' := fun _ => zX q cM cH cW cL cB cS zT0 v.2 ++ pl) (va_runV (As := [.int (xs (x + 1).toNatClampNeg), .int (xs (x + 2).toNatClampNeg)]) (rest := []) ⟨hx, hb, hml, hown, hts⟩ (c_V_fork l D [] _ q cM cH cW cL cB cS zT0 pl cm tm hpl σ (xs (x + 1).toNatClampNeg) (xs (x + 2).toNatClampNeg) v hcV) (cwV 2 hts (zg_V k_283 k_284 k_285 k_29 g_V_fork) rfl rfl rfl ⟨rfl, hd_V_fork⟩ ⟨Nat.le_of_ble_eq_true rfl, Nat.le_of_ble_eq_true rfl⟩) ⟨zrw_b _, va_recv hKV (zPr hP) (q0 := 0) rfl rfl, zrw_w (zPr hP) (zDr hD) hKV hN _⟩ rfl rfl hl.1 rfl (lv_room (Nat.le_of_ble_eq_true rfl)) d_L_law_196 hf0) hP hD hS hA (fun _ H locs hP hD hS => ?_)
        have hP : va_P D vwCl (zR qr cR ρ ++ (zX q cM cH cW cL cB cS zT0 v.2 ++ pl)) H := hP
        have hD : va_D (fun q : Nat => s.heap.size ≤ q) (zR qr cR ρ ++ (zX q cM cH cW cL cB cS zT0 v.2 ++ pl)) := hD
        refine lv_aload_n hx hb d_L_law_199 rfl (lv_at hl 2 rfl) ?_
        refine lv_aload_n hx hb d_L_law_200 rfl (lv_at hl 0 rfl) ?_
        refine lv_iload_n hx hb d_L_law_201 rfl (lv_at hl 3 rfl) ?_
        refine lv_iconst (v := 1) hx hb d_L_law_202 (by decide) ?_
        refine lv_iadd hx hb d_L_law_203 ?_
        refine va_sld hx hb hX hbl hbA hS hi1 d_L_law_204 ?_
        refine lv_aload_n hx hb d_L_law_205 rfl (lv_at hl 0 rfl) ?_
        refine lv_iload_n hx hb d_L_law_206 rfl (lv_at hl 3 rfl) ?_
        refine lv_iconst (v := 2) hx hb d_L_law_207 (by decide) ?_
        refine lv_iadd hx hb d_L_law_208 ?_
        refine va_sld hx hb hX hbl hbA hS hi2 d_L_law_209 ?_
        refine zhl_i (U := Unit) (post := fun _ => w.1) (wa' := fun _ => zR qr cR w.2) (va_runV (As := [.int (xs (x + 1).toNatClampNeg), .int (xs (x + 2).toNatClampNeg)]) (rest := [.int v.1]) ⟨hx, hb, hml, hown, hts⟩ (c_R_fork l D [] _ qr cR ρ (xs (x + 1).toNatClampNeg) (xs (x + 2).toNatClampNeg) w hcR) (cwV 2 hts (zg_V k_543 k_544 k_545 k_32 g_R_fork) rfl rfl rfl ⟨rfl, hd_R_fork⟩ ⟨Nat.le_of_ble_eq_true rfl, Nat.le_of_ble_eq_true rfl⟩) ⟨zrw_b _, va_recv hKR (zPl hP) (q0 := 0) rfl rfl, zrw_w (zPl hP) (zDl hD) hKR hN _⟩ rfl rfl hl.1 rfl (lv_room (Nat.le_of_ble_eq_true rfl)) d_L_law_210 hf0) hP hD hS hA (fun _ H locs hP hD hS => ?_)
        have hP : va_P D vwCl (zR qr cR w.2 ++ (zX q cM cH cW cL cB cS zT0 v.2 ++ pl)) H := hP
        have hD : va_D (fun q : Nat => s.heap.size ≤ q) (zR qr cR w.2 ++ (zX q cM cH cW cL cB cS zT0 v.2 ++ pl)) := hD
        refine lv_icmp_eq (tgt := 628) hx hb d_L_law_213 (by decide) (fun c_213 => ?_) (fun c_213 => ?_)
        · skip
          refine W.widen (k := 37 + 2 * j + 2) (n := 1862 + 17 * j + 17) (by omega) (by omega) ?_
          exact hend v.2 w.2 cm tm pl _ _ hpl hI hP hD hS ls (lv_sub hl [0, 1, 2, 3] rfl)
        · skip
          refine lv_iconst (v := 0) hx hb d_L_law_216 (by decide) ?_
          exact absurd heq c_213
      · skip
        by_cases c_32_2 : ((xs (x).toNatClampNeg) &&& 15) = 2
        · skip
          refine lv_tableIn (off := 186) (tgt := 218) hx hb d_L_law_32 (by rw [c_32_2]; decide) (by rw [c_32_2]; decide) (by rw [c_32_2]; decide) (by decide) ?_
          refine lv_aload_n hx hb d_L_law_218 rfl (lv_at hl 1 rfl) ?_
          refine lv_aload_n hx hb d_L_law_219 rfl (lv_at hl 0 rfl) ?_
          refine lv_iload_n hx hb d_L_law_220 rfl (lv_at hl 3 rfl) ?_
          refine lv_iconst (v := 1) hx hb d_L_law_221 (by decide) ?_
          refine lv_iadd hx hb d_L_law_222 ?_
          refine va_sld hx hb hX hbl hbA hS hi1 d_L_law_223 ?_
          refine lv_aload_n hx hb d_L_law_224 rfl (lv_at hl 0 rfl) ?_
          refine lv_iload_n hx hb d_L_law_225 rfl (lv_at hl 3 rfl) ?_
          refine lv_iconst (v := 2) hx hb d_L_law_226 (by decide) ?_
          refine lv_iadd hx hb d_L_law_227 ?_
          refine va_sld hx hb hX hbl hbA hS hi2 d_L_law_228 ?_
          refine lv_aload_n hx hb d_L_law_229 rfl (lv_at hl 0 rfl) ?_
          refine lv_iload_n hx hb d_L_law_230 rfl (lv_at hl 3 rfl) ?_
          refine lv_iconst (v := 3) hx hb d_L_law_231 (by decide) ?_
          refine lv_iadd hx hb d_L_law_232 ?_
          refine va_sld hx hb hX hbl hbA hS hi3 d_L_law_233 ?_
          obtain ⟨v, w, hcV, hcR, heq, hI⟩ := hst_swap (xs (x + 1).toNatClampNeg) (xs (x + 2).toNatClampNeg) (xs (x + 3).toNatClampNeg) σ ρ cm tm hInv
          refine zhr_i (U := Unit) (post := fun _ => v.1) (wb' := fun _ => zX q cM cH cW cL cB cS zT0 v.2 ++ pl) (va_runV (As := [.int (xs (x + 1).toNatClampNeg), .int (xs (x + 2).toNatClampNeg), .int (xs (x + 3).toNatClampNeg)]) (rest := []) ⟨hx, hb, hml, hown, hts⟩ (c_V_swap l D [] _ q cM cH cW cL cB cS zT0 pl cm tm hpl σ (xs (x + 1).toNatClampNeg) (xs (x + 2).toNatClampNeg) (xs (x + 3).toNatClampNeg) v hcV) (cwV 3 hts (zg_V k_287 k_288 k_289 k_29 g_V_swap) rfl rfl rfl ⟨rfl, hd_V_swap⟩ ⟨Nat.le_of_ble_eq_true rfl, Nat.le_of_ble_eq_true rfl⟩) ⟨zrw_b _, va_recv hKV (zPr hP) (q0 := 0) rfl rfl, zrw_w (zPr hP) (zDr hD) hKV hN _⟩ rfl rfl hl.1 rfl (lv_room (Nat.le_of_ble_eq_true rfl)) d_L_law_234 hf0) hP hD hS hA (fun _ H locs hP hD hS => ?_)
          have hP : va_P D vwCl (zR qr cR ρ ++ (zX q cM cH cW cL cB cS zT0 v.2 ++ pl)) H := hP
          have hD : va_D (fun q : Nat => s.heap.size ≤ q) (zR qr cR ρ ++ (zX q cM cH cW cL cB cS zT0 v.2 ++ pl)) := hD
          refine lv_aload_n hx hb d_L_law_237 rfl (lv_at hl 2 rfl) ?_
          refine lv_aload_n hx hb d_L_law_238 rfl (lv_at hl 0 rfl) ?_
          refine lv_iload_n hx hb d_L_law_239 rfl (lv_at hl 3 rfl) ?_
          refine lv_iconst (v := 1) hx hb d_L_law_240 (by decide) ?_
          refine lv_iadd hx hb d_L_law_241 ?_
          refine va_sld hx hb hX hbl hbA hS hi1 d_L_law_242 ?_
          refine lv_aload_n hx hb d_L_law_243 rfl (lv_at hl 0 rfl) ?_
          refine lv_iload_n hx hb d_L_law_244 rfl (lv_at hl 3 rfl) ?_
          refine lv_iconst (v := 2) hx hb d_L_law_245 (by decide) ?_
          refine lv_iadd hx hb d_L_law_246 ?_
          refine va_sld hx hb hX hbl hbA hS hi2 d_L_law_247 ?_
          refine lv_aload_n hx hb d_L_law_248 rfl (lv_at hl 0 rfl) ?_
          refine lv_iload_n hx hb d_L_law_249 rfl (lv_at hl 3 rfl) ?_
          refine lv_iconst (v := 3) hx hb d_L_law_250 (by decide) ?_
          refine lv_iadd hx hb d_L_law_251 ?_
          refine va_sld hx hb hX hbl hbA hS hi3 d_L_law_252 ?_
          refine zhl_i (U := Unit) (post := fun _ => w.1) (wa' := fun _ => zR qr cR w.2) (va_runV (As := [.int (xs (x + 1).toNatClampNeg), .int (xs (x + 2).toNatClampNeg), .int (xs (x + 3).toNatClampNeg)]) (rest := [.int v.1]) ⟨hx, hb, hml, hown, hts⟩ (c_R_swap l D [] _ qr cR ρ (xs (x + 1).toNatClampNeg) (xs (x + 2).toNatClampNeg) (xs (x + 3).toNatClampNeg) w hcR) (cwV 3 hts (zg_V k_547 k_548 k_549 k_32 g_R_swap) rfl rfl rfl ⟨rfl, hd_R_swap⟩ ⟨Nat.le_of_ble_eq_true rfl, Nat.le_of_ble_eq_true rfl⟩) ⟨zrw_b _, va_recv hKR (zPl hP) (q0 := 0) rfl rfl, zrw_w (zPl hP) (zDl hD) hKR hN _⟩ rfl rfl hl.1 rfl (lv_room (Nat.le_of_ble_eq_true rfl)) d_L_law_253 hf0) hP hD hS hA (fun _ H locs hP hD hS => ?_)
          have hP : va_P D vwCl (zR qr cR w.2 ++ (zX q cM cH cW cL cB cS zT0 v.2 ++ pl)) H := hP
          have hD : va_D (fun q : Nat => s.heap.size ≤ q) (zR qr cR w.2 ++ (zX q cM cH cW cL cB cS zT0 v.2 ++ pl)) := hD
          refine lv_icmp_eq (tgt := 628) hx hb d_L_law_256 (by decide) (fun c_256 => ?_) (fun c_256 => ?_)
          · skip
            refine W.widen (k := 37 + 2 * j + 2) (n := 1862 + 17 * j + 17) (by omega) (by omega) ?_
            exact hend v.2 w.2 cm tm pl _ _ hpl hI hP hD hS ls (lv_sub hl [0, 1, 2, 3] rfl)
          · skip
            refine lv_iconst (v := 0) hx hb d_L_law_259 (by decide) ?_
            exact absurd heq c_256
        · skip
          by_cases c_32_3 : ((xs (x).toNatClampNeg) &&& 15) = 3
          · skip
            refine lv_tableIn (off := 229) (tgt := 261) hx hb d_L_law_32 (by rw [c_32_3]; decide) (by rw [c_32_3]; decide) (by rw [c_32_3]; decide) (by decide) ?_
            refine lv_aload_n hx hb d_L_law_261 rfl (lv_at hl 1 rfl) ?_
            refine lv_aload_n hx hb d_L_law_262 rfl (lv_at hl 0 rfl) ?_
            refine lv_iload_n hx hb d_L_law_263 rfl (lv_at hl 3 rfl) ?_
            refine lv_iconst (v := 1) hx hb d_L_law_264 (by decide) ?_
            refine lv_iadd hx hb d_L_law_265 ?_
            refine va_sld hx hb hX hbl hbA hS hi1 d_L_law_266 ?_
            refine lv_aload_n hx hb d_L_law_267 rfl (lv_at hl 0 rfl) ?_
            refine lv_iload_n hx hb d_L_law_268 rfl (lv_at hl 3 rfl) ?_
            refine lv_iconst (v := 2) hx hb d_L_law_269 (by decide) ?_
            refine lv_iadd hx hb d_L_law_270 ?_
            refine va_sld hx hb hX hbl hbA hS hi2 d_L_law_271 ?_
            obtain ⟨v, w, hcV, hcR, heq, hI⟩ := hst_merge (xs (x + 1).toNatClampNeg) (xs (x + 2).toNatClampNeg) σ ρ cm tm hInv
            refine zhr_i (U := Nat × Nat) (post := fun u => (v u).1) (wb' := fun u => zX q cM cH cW cL cB cS zT0 (v u).2.1 ++ zpn pl u (v u).2.2) (va_runV (As := [.int (xs (x + 1).toNatClampNeg), .int (xs (x + 2).toNatClampNeg)]) (rest := []) ⟨hx, hb, hml, hown, hts⟩ (c_V_merge l D [] _ q cM cH cW cL cB cS zT0 pl cm tm hpl σ (xs (x + 1).toNatClampNeg) (xs (x + 2).toNatClampNeg) v hcV) (cwV 2 hts (zg_V k_291 k_292 k_293 k_29 g_V_merge) rfl rfl rfl ⟨rfl, hd_V_merge⟩ ⟨Nat.le_of_ble_eq_true rfl, Nat.le_of_ble_eq_true rfl⟩) ⟨zrw_b _, va_recv hKV (zPr hP) (q0 := 0) rfl rfl, zrw_w (zPr hP) (zDr hD) hKV hN _⟩ rfl rfl hl.1 rfl (lv_room (Nat.le_of_ble_eq_true rfl)) d_L_law_272 hf2) hP hD hS hA (fun qn H locs hP hD hS => ?_)
            have hfr : zFr cm tm qn (v qn).2.2 := zFr_of hpl qn _ (zDr hD)
            have hP : va_P D vwCl (zR qr cR ρ ++ (zX q cM cH cW cL cB cS zT0 ((v qn).2.1) ++ (zpn pl qn (v qn).2.2))) H := hP
            have hD : va_D (fun q : Nat => s.heap.size ≤ q) (zR qr cR ρ ++ (zX q cM cH cW cL cB cS zT0 ((v qn).2.1) ++ (zpn pl qn (v qn).2.2))) := hD
            refine lv_aload_n hx hb d_L_law_275 rfl (lv_at hl 2 rfl) ?_
            refine lv_aload_n hx hb d_L_law_276 rfl (lv_at hl 0 rfl) ?_
            refine lv_iload_n hx hb d_L_law_277 rfl (lv_at hl 3 rfl) ?_
            refine lv_iconst (v := 1) hx hb d_L_law_278 (by decide) ?_
            refine lv_iadd hx hb d_L_law_279 ?_
            refine va_sld hx hb hX hbl hbA hS hi1 d_L_law_280 ?_
            refine lv_aload_n hx hb d_L_law_281 rfl (lv_at hl 0 rfl) ?_
            refine lv_iload_n hx hb d_L_law_282 rfl (lv_at hl 3 rfl) ?_
            refine lv_iconst (v := 2) hx hb d_L_law_283 (by decide) ?_
            refine lv_iadd hx hb d_L_law_284 ?_
            refine va_sld hx hb hX hbl hbA hS hi2 d_L_law_285 ?_
            refine zhl_i (U := Unit) (post := fun _ => w.1) (wa' := fun _ => zR qr cR w.2) (va_runV (As := [.int (xs (x + 1).toNatClampNeg), .int (xs (x + 2).toNatClampNeg)]) (rest := [.int ((v qn).1)]) ⟨hx, hb, hml, hown, hts⟩ (c_R_merge l D [] _ qr cR ρ (xs (x + 1).toNatClampNeg) (xs (x + 2).toNatClampNeg) w hcR) (cwV 2 hts (zg_V k_555 k_556 k_557 k_32 g_R_merge) rfl rfl rfl ⟨rfl, hd_R_merge⟩ ⟨Nat.le_of_ble_eq_true rfl, Nat.le_of_ble_eq_true rfl⟩) ⟨zrw_b _, va_recv hKR (zPl hP) (q0 := 0) rfl rfl, zrw_w (zPl hP) (zDl hD) hKR hN _⟩ rfl rfl hl.1 rfl (lv_room (Nat.le_of_ble_eq_true rfl)) d_L_law_286 hf2) hP hD hS hA (fun _ H locs hP hD hS => ?_)
            have hP : va_P D vwCl (zR qr cR w.2 ++ (zX q cM cH cW cL cB cS zT0 ((v qn).2.1) ++ (zpn pl qn (v qn).2.2))) H := hP
            have hD : va_D (fun q : Nat => s.heap.size ≤ q) (zR qr cR w.2 ++ (zX q cM cH cW cL cB cS zT0 ((v qn).2.1) ++ (zpn pl qn (v qn).2.2))) := hD
            refine lv_icmp_eq (tgt := 628) hx hb d_L_law_289 (by decide) (fun c_289 => ?_) (fun c_289 => ?_)
            · skip
              refine W.widen (k := 37 + 2 * j + 2) (n := 1862 + 17 * j + 17) (by omega) (by omega) ?_
              exact hend ((v qn).2.1) w.2 (zcm cm qn (v qn).2.2) (ztm tm qn (v qn).2.2) (zpn pl qn (v qn).2.2) _ _ (zpool_zpn hpl qn _) (hI qn hfr) hP hD hS ls (lv_sub hl [0, 1, 2, 3] rfl)
            · skip
              refine lv_iconst (v := 0) hx hb d_L_law_292 (by decide) ?_
              exact absurd (heq qn) c_289
          · skip
            by_cases c_32_4 : ((xs (x).toNatClampNeg) &&& 15) = 4
            · skip
              refine lv_tableIn (off := 262) (tgt := 294) hx hb d_L_law_32 (by rw [c_32_4]; decide) (by rw [c_32_4]; decide) (by rw [c_32_4]; decide) (by decide) ?_
              refine lv_aload_n hx hb d_L_law_294 rfl (lv_at hl 1 rfl) ?_
              refine lv_aload_n hx hb d_L_law_295 rfl (lv_at hl 0 rfl) ?_
              refine lv_iload_n hx hb d_L_law_296 rfl (lv_at hl 3 rfl) ?_
              refine lv_iconst (v := 1) hx hb d_L_law_297 (by decide) ?_
              refine lv_iadd hx hb d_L_law_298 ?_
              refine va_sld hx hb hX hbl hbA hS hi1 d_L_law_299 ?_
              refine lv_aload_n hx hb d_L_law_300 rfl (lv_at hl 0 rfl) ?_
              refine lv_iload_n hx hb d_L_law_301 rfl (lv_at hl 3 rfl) ?_
              refine lv_iconst (v := 2) hx hb d_L_law_302 (by decide) ?_
              refine lv_iadd hx hb d_L_law_303 ?_
              refine va_sld hx hb hX hbl hbA hS hi2 d_L_law_304 ?_
              refine lv_if_eq (tgt := 312) hx hb d_L_law_305 (by decide) (fun c_305 => ?_) (fun c_305 => ?_)
              · skip
                refine lv_iconst (v := 0) hx hb d_L_law_312 (by decide) ?_
                obtain ⟨v, w, hcV, hcR, heq, hI⟩ := hst_watch (xs (x + 1).toNatClampNeg) 0 (Or.inl rfl) σ ρ cm tm hInv
                refine zhr_i (U := Unit) (post := fun _ => v.1) (wb' := fun _ => zX q cM cH cW cL cB cS zT0 v.2 ++ pl) (va_runV (As := [.int (xs (x + 1).toNatClampNeg), .int 0]) (rest := []) ⟨hx, hb, hml, hown, hts⟩ (c_V_watch l D [] _ q cM cH cW cL cB cS zT0 pl cm tm hpl σ (xs (x + 1).toNatClampNeg) 0 v hcV) (cwV 2 hts (zg_V k_365 k_366 k_367 k_29 g_V_watch) rfl rfl rfl ⟨rfl, hd_V_watch⟩ ⟨Nat.le_of_ble_eq_true rfl, Nat.le_of_ble_eq_true rfl⟩) ⟨zrw_b _, va_recv hKV (zPr hP) (q0 := 0) rfl rfl, zrw_w (zPr hP) (zDr hD) hKV hN _⟩ rfl rfl hl.1 rfl (lv_room (Nat.le_of_ble_eq_true rfl)) d_L_law_313 hf0) hP hD hS hA (fun _ H locs hP hD hS => ?_)
                have hP : va_P D vwCl (zR qr cR ρ ++ (zX q cM cH cW cL cB cS zT0 v.2 ++ pl)) H := hP
                have hD : va_D (fun q : Nat => s.heap.size ≤ q) (zR qr cR ρ ++ (zX q cM cH cW cL cB cS zT0 v.2 ++ pl)) := hD
                refine lv_aload_n hx hb d_L_law_316 rfl (lv_at hl 2 rfl) ?_
                refine lv_aload_n hx hb d_L_law_317 rfl (lv_at hl 0 rfl) ?_
                refine lv_iload_n hx hb d_L_law_318 rfl (lv_at hl 3 rfl) ?_
                refine lv_iconst (v := 1) hx hb d_L_law_319 (by decide) ?_
                refine lv_iadd hx hb d_L_law_320 ?_
                refine va_sld hx hb hX hbl hbA hS hi1 d_L_law_321 ?_
                refine lv_aload_n hx hb d_L_law_322 rfl (lv_at hl 0 rfl) ?_
                refine lv_iload_n hx hb d_L_law_323 rfl (lv_at hl 3 rfl) ?_
                refine lv_iconst (v := 2) hx hb d_L_law_324 (by decide) ?_
                refine lv_iadd hx hb d_L_law_325 ?_
                refine va_sld hx hb hX hbl hbA hS hi2 d_L_law_326 ?_
                refine lv_if_eq (tgt := 334) hx hb d_L_law_327 (by decide) (fun c_327 => ?_) (fun c_327 => ?_)
                · skip
                  refine lv_iconst (v := 0) hx hb d_L_law_334 (by decide) ?_
                  refine zhl_i (U := Unit) (post := fun _ => w.1) (wa' := fun _ => zR qr cR w.2) (va_runV (As := [.int (xs (x + 1).toNatClampNeg), .int 0]) (rest := [.int v.1]) ⟨hx, hb, hml, hown, hts⟩ (c_R_watch l D [] _ qr cR ρ (xs (x + 1).toNatClampNeg) 0 w hcR) (cwV 2 hts (zg_V k_610 k_611 k_612 k_32 g_R_watch) rfl rfl rfl ⟨rfl, hd_R_watch⟩ ⟨Nat.le_of_ble_eq_true rfl, Nat.le_of_ble_eq_true rfl⟩) ⟨zrw_b _, va_recv hKR (zPl hP) (q0 := 0) rfl rfl, zrw_w (zPl hP) (zDl hD) hKR hN _⟩ rfl rfl hl.1 rfl (lv_room (Nat.le_of_ble_eq_true rfl)) d_L_law_335 hf0) hP hD hS hA (fun _ H locs hP hD hS => ?_)
                  have hP : va_P D vwCl (zR qr cR w.2 ++ (zX q cM cH cW cL cB cS zT0 v.2 ++ pl)) H := hP
                  have hD : va_D (fun q : Nat => s.heap.size ≤ q) (zR qr cR w.2 ++ (zX q cM cH cW cL cB cS zT0 v.2 ++ pl)) := hD
                  refine lv_icmp_eq (tgt := 628) hx hb d_L_law_338 (by decide) (fun c_338 => ?_) (fun c_338 => ?_)
                  · skip
                    refine W.widen (k := 37 + 2 * j + 2) (n := 1862 + 17 * j + 17) (by omega) (by omega) ?_
                    exact hend v.2 w.2 cm tm pl _ _ hpl hI hP hD hS ls (lv_sub hl [0, 1, 2, 3] rfl)
                  · skip
                    refine lv_iconst (v := 0) hx hb d_L_law_341 (by decide) ?_
                    exact absurd heq c_338
                · skip
                  refine lv_iconst (v := 1) hx hb d_L_law_330 (by decide) ?_
                  refine lv_goto (tgt := 335) hx hb d_L_law_331 (by decide) ?_
                  exact absurd c_305 c_327
              · skip
                refine lv_iconst (v := 1) hx hb d_L_law_308 (by decide) ?_
                refine lv_goto (tgt := 313) hx hb d_L_law_309 (by decide) ?_
                obtain ⟨v, w, hcV, hcR, heq, hI⟩ := hst_watch (xs (x + 1).toNatClampNeg) 1 (Or.inr rfl) σ ρ cm tm hInv
                refine zhr_i (U := Unit) (post := fun _ => v.1) (wb' := fun _ => zX q cM cH cW cL cB cS zT0 v.2 ++ pl) (va_runV (As := [.int (xs (x + 1).toNatClampNeg), .int 1]) (rest := []) ⟨hx, hb, hml, hown, hts⟩ (c_V_watch l D [] _ q cM cH cW cL cB cS zT0 pl cm tm hpl σ (xs (x + 1).toNatClampNeg) 1 v hcV) (cwV 2 hts (zg_V k_365 k_366 k_367 k_29 g_V_watch) rfl rfl rfl ⟨rfl, hd_V_watch⟩ ⟨Nat.le_of_ble_eq_true rfl, Nat.le_of_ble_eq_true rfl⟩) ⟨zrw_b _, va_recv hKV (zPr hP) (q0 := 0) rfl rfl, zrw_w (zPr hP) (zDr hD) hKV hN _⟩ rfl rfl hl.1 rfl (lv_room (Nat.le_of_ble_eq_true rfl)) d_L_law_313 hf0) hP hD hS hA (fun _ H locs hP hD hS => ?_)
                have hP : va_P D vwCl (zR qr cR ρ ++ (zX q cM cH cW cL cB cS zT0 v.2 ++ pl)) H := hP
                have hD : va_D (fun q : Nat => s.heap.size ≤ q) (zR qr cR ρ ++ (zX q cM cH cW cL cB cS zT0 v.2 ++ pl)) := hD
                refine lv_aload_n hx hb d_L_law_316 rfl (lv_at hl 2 rfl) ?_
                refine lv_aload_n hx hb d_L_law_317 rfl (lv_at hl 0 rfl) ?_
                refine lv_iload_n hx hb d_L_law_318 rfl (lv_at hl 3 rfl) ?_
                refine lv_iconst (v := 1) hx hb d_L_law_319 (by decide) ?_
                refine lv_iadd hx hb d_L_law_320 ?_
                refine va_sld hx hb hX hbl hbA hS hi1 d_L_law_321 ?_
                refine lv_aload_n hx hb d_L_law_322 rfl (lv_at hl 0 rfl) ?_
                refine lv_iload_n hx hb d_L_law_323 rfl (lv_at hl 3 rfl) ?_
                refine lv_iconst (v := 2) hx hb d_L_law_324 (by decide) ?_
                refine lv_iadd hx hb d_L_law_325 ?_
                refine va_sld hx hb hX hbl hbA hS hi2 d_L_law_326 ?_
                refine lv_if_eq (tgt := 334) hx hb d_L_law_327 (by decide) (fun c_327 => ?_) (fun c_327 => ?_)
                · skip
                  refine lv_iconst (v := 0) hx hb d_L_law_334 (by decide) ?_
                  exact absurd c_327 c_305
                · skip
                  refine lv_iconst (v := 1) hx hb d_L_law_330 (by decide) ?_
                  refine lv_goto (tgt := 335) hx hb d_L_law_331 (by decide) ?_
                  refine zhl_i (U := Unit) (post := fun _ => w.1) (wa' := fun _ => zR qr cR w.2) (va_runV (As := [.int (xs (x + 1).toNatClampNeg), .int 1]) (rest := [.int v.1]) ⟨hx, hb, hml, hown, hts⟩ (c_R_watch l D [] _ qr cR ρ (xs (x + 1).toNatClampNeg) 1 w hcR) (cwV 2 hts (zg_V k_610 k_611 k_612 k_32 g_R_watch) rfl rfl rfl ⟨rfl, hd_R_watch⟩ ⟨Nat.le_of_ble_eq_true rfl, Nat.le_of_ble_eq_true rfl⟩) ⟨zrw_b _, va_recv hKR (zPl hP) (q0 := 0) rfl rfl, zrw_w (zPl hP) (zDl hD) hKR hN _⟩ rfl rfl hl.1 rfl (lv_room (Nat.le_of_ble_eq_true rfl)) d_L_law_335 hf0) hP hD hS hA (fun _ H locs hP hD hS => ?_)
                  have hP : va_P D vwCl (zR qr cR w.2 ++ (zX q cM cH cW cL cB cS zT0 v.2 ++ pl)) H := hP
                  have hD : va_D (fun q : Nat => s.heap.size ≤ q) (zR qr cR w.2 ++ (zX q cM cH cW cL cB cS zT0 v.2 ++ pl)) := hD
                  refine lv_icmp_eq (tgt := 628) hx hb d_L_law_338 (by decide) (fun c_338 => ?_) (fun c_338 => ?_)
                  · skip
                    refine W.widen (k := 37 + 2 * j + 2) (n := 1862 + 17 * j + 17) (by omega) (by omega) ?_
                    exact hend v.2 w.2 cm tm pl _ _ hpl hI hP hD hS ls (lv_sub hl [0, 1, 2, 3] rfl)
                  · skip
                    refine lv_iconst (v := 0) hx hb d_L_law_341 (by decide) ?_
                    exact absurd heq c_338
            · skip
              by_cases c_32_5 : ((xs (x).toNatClampNeg) &&& 15) = 5
              · skip
                refine lv_tableIn (off := 311) (tgt := 343) hx hb d_L_law_32 (by rw [c_32_5]; decide) (by rw [c_32_5]; decide) (by rw [c_32_5]; decide) (by decide) ?_
                refine lv_aload_n hx hb d_L_law_343 rfl (lv_at hl 1 rfl) ?_
                refine lv_aload_n hx hb d_L_law_344 rfl (lv_at hl 0 rfl) ?_
                refine lv_iload_n hx hb d_L_law_345 rfl (lv_at hl 3 rfl) ?_
                refine lv_iconst (v := 1) hx hb d_L_law_346 (by decide) ?_
                refine lv_iadd hx hb d_L_law_347 ?_
                refine va_sld hx hb hX hbl hbA hS hi1 d_L_law_348 ?_
                obtain ⟨v, hcV, hcR⟩ := hst_head (xs (x + 1).toNatClampNeg) σ ρ cm tm hInv
                refine vp_callSi (va_Run.run (va_runV (As := [.int (xs (x + 1).toNatClampNeg)]) (rest := []) ⟨hx, hb, hml, hown, hts⟩ (c_V_head l D [] q cM cH cW cL cB cS zT0 pl cm tm hpl σ (xs (x + 1).toNatClampNeg) v hcV) (cwV 1 hts (zg_V k_369 k_370 k_371 k_29 g_V_head) rfl rfl rfl ⟨rfl, hd_V_head⟩ ⟨Nat.le_of_ble_eq_true rfl, Nat.le_of_ble_eq_true rfl⟩) ⟨zro_b _, va_recv hKV (zPr hP) (q0 := 0) rfl rfl, zro_p (zPr hP) hKV hN _⟩ rfl rfl hl.1 rfl (lv_room (Nat.le_of_ble_eq_true rfl)) d_L_law_349 hf0)) (fun r er => ?_)
                have er := er.symm
                subst er
                refine lv_aload_n hx hb d_L_law_352 rfl (lv_at hl 2 rfl) ?_
                refine lv_aload_n hx hb d_L_law_353 rfl (lv_at hl 0 rfl) ?_
                refine lv_iload_n hx hb d_L_law_354 rfl (lv_at hl 3 rfl) ?_
                refine lv_iconst (v := 1) hx hb d_L_law_355 (by decide) ?_
                refine lv_iadd hx hb d_L_law_356 ?_
                refine va_sld hx hb hX hbl hbA hS hi1 d_L_law_357 ?_
                refine vp_callSi (va_Run.run (va_runV (As := [.int (xs (x + 1).toNatClampNeg)]) (rest := [.int v]) ⟨hx, hb, hml, hown, hts⟩ (c_R_head l D [] qr cR ρ (xs (x + 1).toNatClampNeg) v hcR) (cwV 1 hts (zg_V k_614 k_615 k_616 k_32 g_R_head) rfl rfl rfl ⟨rfl, hd_R_head⟩ ⟨Nat.le_of_ble_eq_true rfl, Nat.le_of_ble_eq_true rfl⟩) ⟨zro_b _, va_recv hKR (zPl hP) (q0 := 0) rfl rfl, zro_p (zPl hP) hKR hN _⟩ rfl rfl hl.1 rfl (lv_room (Nat.le_of_ble_eq_true rfl)) d_L_law_358 hf0)) (fun r er => ?_)
                have er := er.symm
                subst er
                refine lv_icmp_eq (tgt := 628) hx hb d_L_law_361 (by decide) (fun c_361 => ?_) (fun c_361 => ?_)
                · skip
                  refine W.widen (k := 37 + 2 * j + 2) (n := 1862 + 17 * j + 17) (by omega) (by omega) ?_
                  exact hend σ ρ cm tm pl _ _ hpl hInv hP hD hS ls (lv_sub hl [0, 1, 2, 3] rfl)
                · skip
                  refine lv_iconst (v := 0) hx hb d_L_law_364 (by decide) ?_
                  exact absurd rfl c_361
              · skip
                by_cases c_32_6 : ((xs (x).toNatClampNeg) &&& 15) = 6
                · skip
                  refine lv_tableIn (off := 334) (tgt := 366) hx hb d_L_law_32 (by rw [c_32_6]; decide) (by rw [c_32_6]; decide) (by rw [c_32_6]; decide) (by decide) ?_
                  refine lv_aload_n hx hb d_L_law_366 rfl (lv_at hl 1 rfl) ?_
                  obtain ⟨v, hcV, hcR⟩ := hst_commits σ ρ cm tm hInv
                  refine vp_callSi (va_Run.run (va_runV (As := []) (rest := []) ⟨hx, hb, hml, hown, hts⟩ (c_V_commits l D [] q cM cH cW cL cB cS zT0 pl cm tm hpl σ v hcV) (cwV 0 hts (zg_V k_373 k_374 k_375 k_29 g_V_commits) rfl rfl rfl ⟨rfl, hd_V_commits⟩ ⟨Nat.le_of_ble_eq_true rfl, Nat.le_of_ble_eq_true rfl⟩) ⟨zro_b _, va_recv hKV (zPr hP) (q0 := 0) rfl rfl, zro_p (zPr hP) hKV hN _⟩ rfl rfl hl.1 rfl (lv_room (Nat.le_of_ble_eq_true rfl)) d_L_law_367 hf0)) (fun r er => ?_)
                  have er := er.symm
                  subst er
                  refine lv_aload_n hx hb d_L_law_370 rfl (lv_at hl 2 rfl) ?_
                  refine vp_callSi (va_Run.run (va_runV (As := []) (rest := [.int v]) ⟨hx, hb, hml, hown, hts⟩ (c_R_commits l D [] qr cR ρ v hcR) (cwV 0 hts (zg_V k_618 k_619 k_620 k_32 g_R_commits) rfl rfl rfl ⟨rfl, hd_R_commits⟩ ⟨Nat.le_of_ble_eq_true rfl, Nat.le_of_ble_eq_true rfl⟩) ⟨zro_b _, va_recv hKR (zPl hP) (q0 := 0) rfl rfl, zro_p (zPl hP) hKR hN _⟩ rfl rfl hl.1 rfl (lv_room (Nat.le_of_ble_eq_true rfl)) d_L_law_371 hf0)) (fun r er => ?_)
                  have er := er.symm
                  subst er
                  refine lv_icmp_eq (tgt := 628) hx hb d_L_law_374 (by decide) (fun c_374 => ?_) (fun c_374 => ?_)
                  · skip
                    refine W.widen (k := 37 + 2 * j + 2) (n := 1862 + 17 * j + 17) (by omega) (by omega) ?_
                    exact hend σ ρ cm tm pl _ _ hpl hInv hP hD hS ls (lv_sub hl [0, 1, 2, 3] rfl)
                  · skip
                    refine lv_iconst (v := 0) hx hb d_L_law_377 (by decide) ?_
                    exact absurd rfl c_374
                · skip
                  by_cases c_32_7 : ((xs (x).toNatClampNeg) &&& 15) = 7
                  · skip
                    refine lv_tableIn (off := 347) (tgt := 379) hx hb d_L_law_32 (by rw [c_32_7]; decide) (by rw [c_32_7]; decide) (by rw [c_32_7]; decide) (by decide) ?_
                    refine lv_aload_n hx hb d_L_law_379 rfl (lv_at hl 1 rfl) ?_
                    refine lv_aload_n hx hb d_L_law_380 rfl (lv_at hl 0 rfl) ?_
                    refine lv_iload_n hx hb d_L_law_381 rfl (lv_at hl 3 rfl) ?_
                    refine lv_iconst (v := 1) hx hb d_L_law_382 (by decide) ?_
                    refine lv_iadd hx hb d_L_law_383 ?_
                    refine va_sld hx hb hX hbl hbA hS hi1 d_L_law_384 ?_
                    refine lv_aload_n hx hb d_L_law_385 rfl (lv_at hl 0 rfl) ?_
                    refine lv_iload_n hx hb d_L_law_386 rfl (lv_at hl 3 rfl) ?_
                    refine lv_iconst (v := 2) hx hb d_L_law_387 (by decide) ?_
                    refine lv_iadd hx hb d_L_law_388 ?_
                    refine va_sld hx hb hX hbl hbA hS hi2 d_L_law_389 ?_
                    obtain ⟨v, hcV, hcR⟩ := hst_parent (xs (x + 1).toNatClampNeg) (xs (x + 2).toNatClampNeg) σ ρ cm tm hInv
                    refine vp_callSi (va_Run.run (va_runV (As := [.int (xs (x + 1).toNatClampNeg), .int (xs (x + 2).toNatClampNeg)]) (rest := []) ⟨hx, hb, hml, hown, hts⟩ (c_V_parent l D [] q cM cH cW cL cB cS zT0 pl cm tm hpl σ (xs (x + 1).toNatClampNeg) (xs (x + 2).toNatClampNeg) v hcV) (cwV 2 hts (zg_V k_377 k_378 k_379 k_29 g_V_parent) rfl rfl rfl ⟨rfl, hd_V_parent⟩ ⟨Nat.le_of_ble_eq_true rfl, Nat.le_of_ble_eq_true rfl⟩) ⟨zro_b _, va_recv hKV (zPr hP) (q0 := 0) rfl rfl, zro_p (zPr hP) hKV hN _⟩ rfl rfl hl.1 rfl (lv_room (Nat.le_of_ble_eq_true rfl)) d_L_law_390 hf0)) (fun r er => ?_)
                    have er := er.symm
                    subst er
                    refine lv_aload_n hx hb d_L_law_393 rfl (lv_at hl 2 rfl) ?_
                    refine lv_aload_n hx hb d_L_law_394 rfl (lv_at hl 0 rfl) ?_
                    refine lv_iload_n hx hb d_L_law_395 rfl (lv_at hl 3 rfl) ?_
                    refine lv_iconst (v := 1) hx hb d_L_law_396 (by decide) ?_
                    refine lv_iadd hx hb d_L_law_397 ?_
                    refine va_sld hx hb hX hbl hbA hS hi1 d_L_law_398 ?_
                    refine lv_aload_n hx hb d_L_law_399 rfl (lv_at hl 0 rfl) ?_
                    refine lv_iload_n hx hb d_L_law_400 rfl (lv_at hl 3 rfl) ?_
                    refine lv_iconst (v := 2) hx hb d_L_law_401 (by decide) ?_
                    refine lv_iadd hx hb d_L_law_402 ?_
                    refine va_sld hx hb hX hbl hbA hS hi2 d_L_law_403 ?_
                    refine vp_callSi (va_Run.run (va_runV (As := [.int (xs (x + 1).toNatClampNeg), .int (xs (x + 2).toNatClampNeg)]) (rest := [.int v]) ⟨hx, hb, hml, hown, hts⟩ (c_R_parent l D [] qr cR ρ (xs (x + 1).toNatClampNeg) (xs (x + 2).toNatClampNeg) v hcR) (cwV 2 hts (zg_V k_622 k_623 k_624 k_32 g_R_parent) rfl rfl rfl ⟨rfl, hd_R_parent⟩ ⟨Nat.le_of_ble_eq_true rfl, Nat.le_of_ble_eq_true rfl⟩) ⟨zro_b _, va_recv hKR (zPl hP) (q0 := 0) rfl rfl, zro_p (zPl hP) hKR hN _⟩ rfl rfl hl.1 rfl (lv_room (Nat.le_of_ble_eq_true rfl)) d_L_law_404 hf0)) (fun r er => ?_)
                    have er := er.symm
                    subst er
                    refine lv_icmp_eq (tgt := 628) hx hb d_L_law_407 (by decide) (fun c_407 => ?_) (fun c_407 => ?_)
                    · skip
                      refine W.widen (k := 37 + 2 * j + 2) (n := 1862 + 17 * j + 17) (by omega) (by omega) ?_
                      exact hend σ ρ cm tm pl _ _ hpl hInv hP hD hS ls (lv_sub hl [0, 1, 2, 3] rfl)
                    · skip
                      refine lv_iconst (v := 0) hx hb d_L_law_410 (by decide) ?_
                      exact absurd rfl c_407
                  · skip
                    by_cases c_32_8 : ((xs (x).toNatClampNeg) &&& 15) = 8
                    · skip
                      refine lv_tableIn (off := 380) (tgt := 412) hx hb d_L_law_32 (by rw [c_32_8]; decide) (by rw [c_32_8]; decide) (by rw [c_32_8]; decide) (by decide) ?_
                      refine lv_aload_n hx hb d_L_law_412 rfl (lv_at hl 1 rfl) ?_
                      refine lv_aload_n hx hb d_L_law_413 rfl (lv_at hl 0 rfl) ?_
                      refine lv_iload_n hx hb d_L_law_414 rfl (lv_at hl 3 rfl) ?_
                      refine lv_iconst (v := 1) hx hb d_L_law_415 (by decide) ?_
                      refine lv_iadd hx hb d_L_law_416 ?_
                      refine va_sld hx hb hX hbl hbA hS hi1 d_L_law_417 ?_
                      obtain ⟨v, hcV, hcR⟩ := hst_ancestors (xs (x + 1).toNatClampNeg) σ ρ cm tm hInv
                      refine vp_callSi (va_Run.run (va_runV (As := [.int (xs (x + 1).toNatClampNeg)]) (rest := []) ⟨hx, hb, hml, hown, hts⟩ (c_V_ancestors l D [] q cM cH cW cL cB cS zT0 pl cm tm hpl σ (xs (x + 1).toNatClampNeg) v hcV) (cwV 1 hts (zg_V k_381 k_382 k_383 k_29 g_V_ancestors) rfl rfl rfl ⟨rfl, hd_V_ancestors⟩ ⟨Nat.le_of_ble_eq_true rfl, Nat.le_of_ble_eq_true rfl⟩) ⟨zro_b _, va_recv hKV (zPr hP) (q0 := 0) rfl rfl, zro_p (zPr hP) hKV hN _⟩ rfl rfl hl.1 rfl (lv_room (Nat.le_of_ble_eq_true rfl)) d_L_law_418 hf0)) (fun r er => ?_)
                      have er := er.symm
                      subst er
                      refine lv_aload_n hx hb d_L_law_421 rfl (lv_at hl 2 rfl) ?_
                      refine lv_aload_n hx hb d_L_law_422 rfl (lv_at hl 0 rfl) ?_
                      refine lv_iload_n hx hb d_L_law_423 rfl (lv_at hl 3 rfl) ?_
                      refine lv_iconst (v := 1) hx hb d_L_law_424 (by decide) ?_
                      refine lv_iadd hx hb d_L_law_425 ?_
                      refine va_sld hx hb hX hbl hbA hS hi1 d_L_law_426 ?_
                      refine vp_callSi (va_Run.run (va_runV (As := [.int (xs (x + 1).toNatClampNeg)]) (rest := [.int v]) ⟨hx, hb, hml, hown, hts⟩ (c_R_ancestors l D [] qr cR ρ (xs (x + 1).toNatClampNeg) v hcR) (cwV 1 hts (zg_V k_626 k_627 k_628 k_32 g_R_ancestors) rfl rfl rfl ⟨rfl, hd_R_ancestors⟩ ⟨Nat.le_of_ble_eq_true rfl, Nat.le_of_ble_eq_true rfl⟩) ⟨zro_b _, va_recv hKR (zPl hP) (q0 := 0) rfl rfl, zro_p (zPl hP) hKR hN _⟩ rfl rfl hl.1 rfl (lv_room (Nat.le_of_ble_eq_true rfl)) d_L_law_427 hf0)) (fun r er => ?_)
                      have er := er.symm
                      subst er
                      refine lv_icmp_eq (tgt := 628) hx hb d_L_law_430 (by decide) (fun c_430 => ?_) (fun c_430 => ?_)
                      · skip
                        refine W.widen (k := 37 + 2 * j + 2) (n := 1862 + 17 * j + 17) (by omega) (by omega) ?_
                        exact hend σ ρ cm tm pl _ _ hpl hInv hP hD hS ls (lv_sub hl [0, 1, 2, 3] rfl)
                      · skip
                        refine lv_iconst (v := 0) hx hb d_L_law_433 (by decide) ?_
                        exact absurd rfl c_430
                    · skip
                      by_cases c_32_9 : ((xs (x).toNatClampNeg) &&& 15) = 9
                      · skip
                        refine lv_tableIn (off := 403) (tgt := 435) hx hb d_L_law_32 (by rw [c_32_9]; decide) (by rw [c_32_9]; decide) (by rw [c_32_9]; decide) (by decide) ?_
                        refine lv_aload_n hx hb d_L_law_435 rfl (lv_at hl 1 rfl) ?_
                        refine lv_aload_n hx hb d_L_law_436 rfl (lv_at hl 0 rfl) ?_
                        refine lv_iload_n hx hb d_L_law_437 rfl (lv_at hl 3 rfl) ?_
                        refine lv_iconst (v := 1) hx hb d_L_law_438 (by decide) ?_
                        refine lv_iadd hx hb d_L_law_439 ?_
                        refine va_sld hx hb hX hbl hbA hS hi1 d_L_law_440 ?_
                        refine lv_aload_n hx hb d_L_law_441 rfl (lv_at hl 0 rfl) ?_
                        refine lv_iload_n hx hb d_L_law_442 rfl (lv_at hl 3 rfl) ?_
                        refine lv_iconst (v := 2) hx hb d_L_law_443 (by decide) ?_
                        refine lv_iadd hx hb d_L_law_444 ?_
                        refine va_sld hx hb hX hbl hbA hS hi2 d_L_law_445 ?_
                        refine lv_aload_n hx hb d_L_law_446 rfl (lv_at hl 0 rfl) ?_
                        refine lv_iload_n hx hb d_L_law_447 rfl (lv_at hl 3 rfl) ?_
                        refine lv_iconst (v := 3) hx hb d_L_law_448 (by decide) ?_
                        refine lv_iadd hx hb d_L_law_449 ?_
                        refine va_sld hx hb hX hbl hbA hS hi3 d_L_law_450 ?_
                        obtain ⟨v, hcV, hcR⟩ := hst_meet (xs (x + 1).toNatClampNeg) (xs (x + 2).toNatClampNeg) (xs (x + 3).toNatClampNeg) σ ρ cm tm hInv
                        refine vp_callSi (va_Run.run (va_runV (As := [.int (xs (x + 1).toNatClampNeg), .int (xs (x + 2).toNatClampNeg), .int (xs (x + 3).toNatClampNeg)]) (rest := []) ⟨hx, hb, hml, hown, hts⟩ (c_V_meet l D [] q cM cH cW cL cB cS zT0 pl cm tm hpl σ (xs (x + 1).toNatClampNeg) (xs (x + 2).toNatClampNeg) (xs (x + 3).toNatClampNeg) v hcV) (cwV 3 hts (zg_V k_391 k_392 k_393 k_29 g_V_meet) rfl rfl rfl ⟨rfl, hd_V_meet⟩ ⟨Nat.le_of_ble_eq_true rfl, Nat.le_of_ble_eq_true rfl⟩) ⟨zro_b _, va_recv hKV (zPr hP) (q0 := 0) rfl rfl, zro_p (zPr hP) hKV hN _⟩ rfl rfl hl.1 rfl (lv_room (Nat.le_of_ble_eq_true rfl)) d_L_law_451 hf0)) (fun r er => ?_)
                        have er := er.symm
                        subst er
                        refine lv_aload_n hx hb d_L_law_454 rfl (lv_at hl 2 rfl) ?_
                        refine lv_aload_n hx hb d_L_law_455 rfl (lv_at hl 0 rfl) ?_
                        refine lv_iload_n hx hb d_L_law_456 rfl (lv_at hl 3 rfl) ?_
                        refine lv_iconst (v := 1) hx hb d_L_law_457 (by decide) ?_
                        refine lv_iadd hx hb d_L_law_458 ?_
                        refine va_sld hx hb hX hbl hbA hS hi1 d_L_law_459 ?_
                        refine lv_aload_n hx hb d_L_law_460 rfl (lv_at hl 0 rfl) ?_
                        refine lv_iload_n hx hb d_L_law_461 rfl (lv_at hl 3 rfl) ?_
                        refine lv_iconst (v := 2) hx hb d_L_law_462 (by decide) ?_
                        refine lv_iadd hx hb d_L_law_463 ?_
                        refine va_sld hx hb hX hbl hbA hS hi2 d_L_law_464 ?_
                        refine lv_aload_n hx hb d_L_law_465 rfl (lv_at hl 0 rfl) ?_
                        refine lv_iload_n hx hb d_L_law_466 rfl (lv_at hl 3 rfl) ?_
                        refine lv_iconst (v := 3) hx hb d_L_law_467 (by decide) ?_
                        refine lv_iadd hx hb d_L_law_468 ?_
                        refine va_sld hx hb hX hbl hbA hS hi3 d_L_law_469 ?_
                        refine vp_callSi (va_Run.run (va_runV (As := [.int (xs (x + 1).toNatClampNeg), .int (xs (x + 2).toNatClampNeg), .int (xs (x + 3).toNatClampNeg)]) (rest := [.int v]) ⟨hx, hb, hml, hown, hts⟩ (c_R_meet l D [] qr cR ρ (xs (x + 1).toNatClampNeg) (xs (x + 2).toNatClampNeg) (xs (x + 3).toNatClampNeg) v hcR) (cwV 3 hts (zg_V k_630 k_631 k_632 k_32 g_R_meet) rfl rfl rfl ⟨rfl, hd_R_meet⟩ ⟨Nat.le_of_ble_eq_true rfl, Nat.le_of_ble_eq_true rfl⟩) ⟨zro_b _, va_recv hKR (zPl hP) (q0 := 0) rfl rfl, zro_p (zPl hP) hKR hN _⟩ rfl rfl hl.1 rfl (lv_room (Nat.le_of_ble_eq_true rfl)) d_L_law_470 hf0)) (fun r er => ?_)
                        have er := er.symm
                        subst er
                        refine lv_icmp_eq (tgt := 628) hx hb d_L_law_473 (by decide) (fun c_473 => ?_) (fun c_473 => ?_)
                        · skip
                          refine W.widen (k := 37 + 2 * j + 2) (n := 1862 + 17 * j + 17) (by omega) (by omega) ?_
                          exact hend σ ρ cm tm pl _ _ hpl hInv hP hD hS ls (lv_sub hl [0, 1, 2, 3] rfl)
                        · skip
                          refine lv_iconst (v := 0) hx hb d_L_law_476 (by decide) ?_
                          exact absurd rfl c_473
                      · skip
                        by_cases c_32_10 : ((xs (x).toNatClampNeg) &&& 15) = 10
                        · skip
                          refine lv_tableIn (off := 446) (tgt := 478) hx hb d_L_law_32 (by rw [c_32_10]; decide) (by rw [c_32_10]; decide) (by rw [c_32_10]; decide) (by decide) ?_
                          refine lv_aload_n hx hb d_L_law_478 rfl (lv_at hl 1 rfl) ?_
                          refine lv_aload_n hx hb d_L_law_479 rfl (lv_at hl 0 rfl) ?_
                          refine lv_iload_n hx hb d_L_law_480 rfl (lv_at hl 3 rfl) ?_
                          refine lv_iconst (v := 1) hx hb d_L_law_481 (by decide) ?_
                          refine lv_iadd hx hb d_L_law_482 ?_
                          refine va_sld hx hb hX hbl hbA hS hi1 d_L_law_483 ?_
                          refine lv_aload_n hx hb d_L_law_484 rfl (lv_at hl 0 rfl) ?_
                          refine lv_iload_n hx hb d_L_law_485 rfl (lv_at hl 3 rfl) ?_
                          refine lv_iconst (v := 2) hx hb d_L_law_486 (by decide) ?_
                          refine lv_iadd hx hb d_L_law_487 ?_
                          refine va_sld hx hb hX hbl hbA hS hi2 d_L_law_488 ?_
                          obtain ⟨v, hcV, hcR⟩ := hst_value (xs (x + 1).toNatClampNeg) (xs (x + 2).toNatClampNeg) σ ρ cm tm hInv
                          refine vp_callSl (va_Run.run (va_runV (As := [.int (xs (x + 1).toNatClampNeg), .int (xs (x + 2).toNatClampNeg)]) (rest := []) ⟨hx, hb, hml, hown, hts⟩ (c_V_value l D [] q cM cH cW cL cB cS zT0 pl cm tm hpl σ (xs (x + 1).toNatClampNeg) (xs (x + 2).toNatClampNeg) v hcV) (cwV 2 hts (zg_V k_395 k_396 k_397 k_29 g_V_value) rfl rfl rfl ⟨rfl, hd_V_value⟩ ⟨Nat.le_of_ble_eq_true rfl, Nat.le_of_ble_eq_true rfl⟩) ⟨zro_b _, va_recv hKV (zPr hP) (q0 := 0) rfl rfl, zro_p (zPr hP) hKV hN _⟩ rfl rfl hl.1 rfl (lv_room (Nat.le_of_ble_eq_true rfl)) d_L_law_489 hf0)) (fun r er => ?_)
                          have er := er.symm
                          subst er
                          refine lv_aload_n hx hb d_L_law_492 rfl (lv_at hl 2 rfl) ?_
                          refine lv_aload_n hx hb d_L_law_493 rfl (lv_at hl 0 rfl) ?_
                          refine lv_iload_n hx hb d_L_law_494 rfl (lv_at hl 3 rfl) ?_
                          refine lv_iconst (v := 1) hx hb d_L_law_495 (by decide) ?_
                          refine lv_iadd hx hb d_L_law_496 ?_
                          refine va_sld hx hb hX hbl hbA hS hi1 d_L_law_497 ?_
                          refine lv_aload_n hx hb d_L_law_498 rfl (lv_at hl 0 rfl) ?_
                          refine lv_iload_n hx hb d_L_law_499 rfl (lv_at hl 3 rfl) ?_
                          refine lv_iconst (v := 2) hx hb d_L_law_500 (by decide) ?_
                          refine lv_iadd hx hb d_L_law_501 ?_
                          refine va_sld hx hb hX hbl hbA hS hi2 d_L_law_502 ?_
                          refine vp_callSl (va_Run.run (va_runV (As := [.int (xs (x + 1).toNatClampNeg), .int (xs (x + 2).toNatClampNeg)]) (rest := [.long v]) ⟨hx, hb, hml, hown, hts⟩ (c_R_value l D [] qr cR ρ (xs (x + 1).toNatClampNeg) (xs (x + 2).toNatClampNeg) v hcR) (cwV 2 hts (zg_V k_634 k_635 k_636 k_32 g_R_value) rfl rfl rfl ⟨rfl, hd_R_value⟩ ⟨Nat.le_of_ble_eq_true rfl, Nat.le_of_ble_eq_true rfl⟩) ⟨zro_b _, va_recv hKR (zPl hP) (q0 := 0) rfl rfl, zro_p (zPl hP) hKR hN _⟩ rfl rfl hl.1 rfl (lv_room (Nat.le_of_ble_eq_true rfl)) d_L_law_503 hf0)) (fun r er => ?_)
                          have er := er.symm
                          subst er
                          refine W.lcmp hx hb d_L_law_506 ?_
                          refine lv_if_eq (tgt := 628) hx hb d_L_law_507 (by decide) (fun c_507 => ?_) (fun c_507 => ?_)
                          · skip
                            refine W.widen (k := 37 + 2 * j + 2) (n := 1862 + 17 * j + 17) (by omega) (by omega) ?_
                            exact hend σ ρ cm tm pl _ _ hpl hInv hP hD hS ls (lv_sub hl [0, 1, 2, 3] rfl)
                          · skip
                            refine lv_iconst (v := 0) hx hb d_L_law_510 (by decide) ?_
                            exact absurd (zlg v) c_507
                        · skip
                          by_cases c_32_11 : ((xs (x).toNatClampNeg) &&& 15) = 11
                          · skip
                            refine lv_tableIn (off := 480) (tgt := 512) hx hb d_L_law_32 (by rw [c_32_11]; decide) (by rw [c_32_11]; decide) (by rw [c_32_11]; decide) (by decide) ?_
                            refine lv_aload_n hx hb d_L_law_512 rfl (lv_at hl 1 rfl) ?_
                            refine lv_aload_n hx hb d_L_law_513 rfl (lv_at hl 0 rfl) ?_
                            refine lv_iload_n hx hb d_L_law_514 rfl (lv_at hl 3 rfl) ?_
                            refine lv_iconst (v := 1) hx hb d_L_law_515 (by decide) ?_
                            refine lv_iadd hx hb d_L_law_516 ?_
                            refine va_sld hx hb hX hbl hbA hS hi1 d_L_law_517 ?_
                            refine lv_aload_n hx hb d_L_law_518 rfl (lv_at hl 0 rfl) ?_
                            refine lv_iload_n hx hb d_L_law_519 rfl (lv_at hl 3 rfl) ?_
                            refine lv_iconst (v := 2) hx hb d_L_law_520 (by decide) ?_
                            refine lv_iadd hx hb d_L_law_521 ?_
                            refine va_sld hx hb hX hbl hbA hS hi2 d_L_law_522 ?_
                            obtain ⟨v, hcV, hcR⟩ := hst_queued (xs (x + 1).toNatClampNeg) (xs (x + 2).toNatClampNeg) σ ρ cm tm hInv
                            refine vp_callSi (va_Run.run (va_runV (As := [.int (xs (x + 1).toNatClampNeg), .int (xs (x + 2).toNatClampNeg)]) (rest := []) ⟨hx, hb, hml, hown, hts⟩ (c_V_queued l D [] q cM cH cW cL cB cS zT0 pl cm tm hpl σ (xs (x + 1).toNatClampNeg) (xs (x + 2).toNatClampNeg) v hcV) (cwV 2 hts (zg_V k_401 k_402 k_403 k_29 g_V_queued) rfl rfl rfl ⟨rfl, hd_V_queued⟩ ⟨Nat.le_of_ble_eq_true rfl, Nat.le_of_ble_eq_true rfl⟩) ⟨zro_b _, va_recv hKV (zPr hP) (q0 := 0) rfl rfl, zro_p (zPr hP) hKV hN _⟩ rfl rfl hl.1 rfl (lv_room (Nat.le_of_ble_eq_true rfl)) d_L_law_523 hf0)) (fun r er => ?_)
                            have er := er.symm
                            subst er
                            refine lv_aload_n hx hb d_L_law_526 rfl (lv_at hl 2 rfl) ?_
                            refine lv_aload_n hx hb d_L_law_527 rfl (lv_at hl 0 rfl) ?_
                            refine lv_iload_n hx hb d_L_law_528 rfl (lv_at hl 3 rfl) ?_
                            refine lv_iconst (v := 1) hx hb d_L_law_529 (by decide) ?_
                            refine lv_iadd hx hb d_L_law_530 ?_
                            refine va_sld hx hb hX hbl hbA hS hi1 d_L_law_531 ?_
                            refine lv_aload_n hx hb d_L_law_532 rfl (lv_at hl 0 rfl) ?_
                            refine lv_iload_n hx hb d_L_law_533 rfl (lv_at hl 3 rfl) ?_
                            refine lv_iconst (v := 2) hx hb d_L_law_534 (by decide) ?_
                            refine lv_iadd hx hb d_L_law_535 ?_
                            refine va_sld hx hb hX hbl hbA hS hi2 d_L_law_536 ?_
                            refine vp_callSi (va_Run.run (va_runV (As := [.int (xs (x + 1).toNatClampNeg), .int (xs (x + 2).toNatClampNeg)]) (rest := [.int v]) ⟨hx, hb, hml, hown, hts⟩ (c_R_queued l D [] qr cR ρ (xs (x + 1).toNatClampNeg) (xs (x + 2).toNatClampNeg) v hcR) (cwV 2 hts (zg_V k_638 k_639 k_640 k_32 g_R_queued) rfl rfl rfl ⟨rfl, hd_R_queued⟩ ⟨Nat.le_of_ble_eq_true rfl, Nat.le_of_ble_eq_true rfl⟩) ⟨zro_b _, va_recv hKR (zPl hP) (q0 := 0) rfl rfl, zro_p (zPl hP) hKR hN _⟩ rfl rfl hl.1 rfl (lv_room (Nat.le_of_ble_eq_true rfl)) d_L_law_537 hf0)) (fun r er => ?_)
                            have er := er.symm
                            subst er
                            refine lv_icmp_eq (tgt := 628) hx hb d_L_law_540 (by decide) (fun c_540 => ?_) (fun c_540 => ?_)
                            · skip
                              refine W.widen (k := 37 + 2 * j + 2) (n := 1862 + 17 * j + 17) (by omega) (by omega) ?_
                              exact hend σ ρ cm tm pl _ _ hpl hInv hP hD hS ls (lv_sub hl [0, 1, 2, 3] rfl)
                            · skip
                              refine lv_iconst (v := 0) hx hb d_L_law_543 (by decide) ?_
                              exact absurd rfl c_540
                          · skip
                            by_cases c_32_12 : ((xs (x).toNatClampNeg) &&& 15) = 12
                            · skip
                              refine lv_tableIn (off := 513) (tgt := 545) hx hb d_L_law_32 (by rw [c_32_12]; decide) (by rw [c_32_12]; decide) (by rw [c_32_12]; decide) (by decide) ?_
                              refine lv_aload_n hx hb d_L_law_545 rfl (lv_at hl 1 rfl) ?_
                              refine lv_aload_n hx hb d_L_law_546 rfl (lv_at hl 0 rfl) ?_
                              refine lv_iload_n hx hb d_L_law_547 rfl (lv_at hl 3 rfl) ?_
                              refine lv_iconst (v := 1) hx hb d_L_law_548 (by decide) ?_
                              refine lv_iadd hx hb d_L_law_549 ?_
                              refine va_sld hx hb hX hbl hbA hS hi1 d_L_law_550 ?_
                              obtain ⟨v, hcV, hcR⟩ := hst_time (xs (x + 1).toNatClampNeg) σ ρ cm tm hInv
                              refine vp_callSi (va_Run.run (va_runV (As := [.int (xs (x + 1).toNatClampNeg)]) (rest := []) ⟨hx, hb, hml, hown, hts⟩ (c_V_time l D [] q cM cH cW cL cB cS zT0 pl cm tm hpl σ (xs (x + 1).toNatClampNeg) v hcV) (cwV 1 hts (zg_V k_406 k_407 k_408 k_29 g_V_time) rfl rfl rfl ⟨rfl, hd_V_time⟩ ⟨Nat.le_of_ble_eq_true rfl, Nat.le_of_ble_eq_true rfl⟩) ⟨zro_b _, va_recv hKV (zPr hP) (q0 := 0) rfl rfl, zro_p (zPr hP) hKV hN _⟩ rfl rfl hl.1 rfl (lv_room (Nat.le_of_ble_eq_true rfl)) d_L_law_551 hf0)) (fun r er => ?_)
                              have er := er.symm
                              subst er
                              refine lv_aload_n hx hb d_L_law_554 rfl (lv_at hl 2 rfl) ?_
                              refine lv_aload_n hx hb d_L_law_555 rfl (lv_at hl 0 rfl) ?_
                              refine lv_iload_n hx hb d_L_law_556 rfl (lv_at hl 3 rfl) ?_
                              refine lv_iconst (v := 1) hx hb d_L_law_557 (by decide) ?_
                              refine lv_iadd hx hb d_L_law_558 ?_
                              refine va_sld hx hb hX hbl hbA hS hi1 d_L_law_559 ?_
                              refine vp_callSi (va_Run.run (va_runV (As := [.int (xs (x + 1).toNatClampNeg)]) (rest := [.int v]) ⟨hx, hb, hml, hown, hts⟩ (c_R_time l D [] qr cR ρ (xs (x + 1).toNatClampNeg) v hcR) (cwV 1 hts (zg_V k_642 k_643 k_644 k_32 g_R_time) rfl rfl rfl ⟨rfl, hd_R_time⟩ ⟨Nat.le_of_ble_eq_true rfl, Nat.le_of_ble_eq_true rfl⟩) ⟨zro_b _, va_recv hKR (zPl hP) (q0 := 0) rfl rfl, zro_p (zPl hP) hKR hN _⟩ rfl rfl hl.1 rfl (lv_room (Nat.le_of_ble_eq_true rfl)) d_L_law_560 hf0)) (fun r er => ?_)
                              have er := er.symm
                              subst er
                              refine lv_icmp_eq (tgt := 628) hx hb d_L_law_563 (by decide) (fun c_563 => ?_) (fun c_563 => ?_)
                              · skip
                                refine W.widen (k := 37 + 2 * j + 2) (n := 1862 + 17 * j + 17) (by omega) (by omega) ?_
                                exact hend σ ρ cm tm pl _ _ hpl hInv hP hD hS ls (lv_sub hl [0, 1, 2, 3] rfl)
                              · skip
                                refine lv_iconst (v := 0) hx hb d_L_law_566 (by decide) ?_
                                exact absurd rfl c_563
                            · skip
                              by_cases c_32_13 : ((xs (x).toNatClampNeg) &&& 15) = 13
                              · skip
                                refine lv_tableIn (off := 536) (tgt := 568) hx hb d_L_law_32 (by rw [c_32_13]; decide) (by rw [c_32_13]; decide) (by rw [c_32_13]; decide) (by decide) ?_
                                refine lv_aload_n hx hb d_L_law_568 rfl (lv_at hl 1 rfl) ?_
                                refine lv_aload_n hx hb d_L_law_569 rfl (lv_at hl 0 rfl) ?_
                                refine lv_iload_n hx hb d_L_law_570 rfl (lv_at hl 3 rfl) ?_
                                refine lv_iconst (v := 1) hx hb d_L_law_571 (by decide) ?_
                                refine lv_iadd hx hb d_L_law_572 ?_
                                refine va_sld hx hb hX hbl hbA hS hi1 d_L_law_573 ?_
                                obtain ⟨v, hcV, hcR⟩ := hst_hash (xs (x + 1).toNatClampNeg) σ ρ cm tm hInv
                                refine vp_callSl (va_Run.run (va_runV (As := [.int (xs (x + 1).toNatClampNeg)]) (rest := []) ⟨hx, hb, hml, hown, hts⟩ (c_V_hash l D [] q cM cH cW cL cB cS zT0 pl cm tm hpl σ (xs (x + 1).toNatClampNeg) v hcV) (cwV 1 hts (zg_V k_410 k_411 k_412 k_29 g_V_hash) rfl rfl rfl ⟨rfl, hd_V_hash⟩ ⟨Nat.le_of_ble_eq_true rfl, Nat.le_of_ble_eq_true rfl⟩) ⟨zro_b _, va_recv hKV (zPr hP) (q0 := 0) rfl rfl, zro_p (zPr hP) hKV hN _⟩ rfl rfl hl.1 rfl (lv_room (Nat.le_of_ble_eq_true rfl)) d_L_law_574 hf0)) (fun r er => ?_)
                                have er := er.symm
                                subst er
                                refine lv_aload_n hx hb d_L_law_577 rfl (lv_at hl 2 rfl) ?_
                                refine lv_aload_n hx hb d_L_law_578 rfl (lv_at hl 0 rfl) ?_
                                refine lv_iload_n hx hb d_L_law_579 rfl (lv_at hl 3 rfl) ?_
                                refine lv_iconst (v := 1) hx hb d_L_law_580 (by decide) ?_
                                refine lv_iadd hx hb d_L_law_581 ?_
                                refine va_sld hx hb hX hbl hbA hS hi1 d_L_law_582 ?_
                                refine vp_callSl (va_Run.run (va_runV (As := [.int (xs (x + 1).toNatClampNeg)]) (rest := [.long v]) ⟨hx, hb, hml, hown, hts⟩ (c_R_hash l D [] qr cR ρ (xs (x + 1).toNatClampNeg) v hcR) (cwV 1 hts (zg_V k_646 k_647 k_648 k_32 g_R_hash) rfl rfl rfl ⟨rfl, hd_R_hash⟩ ⟨Nat.le_of_ble_eq_true rfl, Nat.le_of_ble_eq_true rfl⟩) ⟨zro_b _, va_recv hKR (zPl hP) (q0 := 0) rfl rfl, zro_p (zPl hP) hKR hN _⟩ rfl rfl hl.1 rfl (lv_room (Nat.le_of_ble_eq_true rfl)) d_L_law_583 hf0)) (fun r er => ?_)
                                have er := er.symm
                                subst er
                                refine W.lcmp hx hb d_L_law_586 ?_
                                refine lv_if_eq (tgt := 628) hx hb d_L_law_587 (by decide) (fun c_587 => ?_) (fun c_587 => ?_)
                                · skip
                                  refine W.widen (k := 37 + 2 * j + 2) (n := 1862 + 17 * j + 17) (by omega) (by omega) ?_
                                  exact hend σ ρ cm tm pl _ _ hpl hInv hP hD hS ls (lv_sub hl [0, 1, 2, 3] rfl)
                                · skip
                                  refine lv_iconst (v := 0) hx hb d_L_law_590 (by decide) ?_
                                  exact absurd (zlg v) c_587
                              · skip
                                by_cases c_32_14 : ((xs (x).toNatClampNeg) &&& 15) = 14
                                · skip
                                  refine lv_tableIn (off := 560) (tgt := 592) hx hb d_L_law_32 (by rw [c_32_14]; decide) (by rw [c_32_14]; decide) (by rw [c_32_14]; decide) (by decide) ?_
                                  refine lv_aload_n hx hb d_L_law_592 rfl (lv_at hl 1 rfl) ?_
                                  obtain ⟨v, hcV, hcR⟩ := hst_events σ ρ cm tm hInv
                                  refine vp_callSi (va_Run.run (va_runV (As := []) (rest := []) ⟨hx, hb, hml, hown, hts⟩ (c_V_events l D [] q cM cH cW cL cB cS zT0 pl cm tm hpl σ v hcV) (cwV 0 hts (zg_V k_414 k_415 k_416 k_29 g_V_events) rfl rfl rfl ⟨rfl, hd_V_events⟩ ⟨Nat.le_of_ble_eq_true rfl, Nat.le_of_ble_eq_true rfl⟩) ⟨zro_b _, va_recv hKV (zPr hP) (q0 := 0) rfl rfl, zro_p (zPr hP) hKV hN _⟩ rfl rfl hl.1 rfl (lv_room (Nat.le_of_ble_eq_true rfl)) d_L_law_593 hf0)) (fun r er => ?_)
                                  have er := er.symm
                                  subst er
                                  refine lv_aload_n hx hb d_L_law_596 rfl (lv_at hl 2 rfl) ?_
                                  refine vp_callSi (va_Run.run (va_runV (As := []) (rest := [.int v]) ⟨hx, hb, hml, hown, hts⟩ (c_R_events l D [] qr cR ρ v hcR) (cwV 0 hts (zg_V k_650 k_651 k_652 k_32 g_R_events) rfl rfl rfl ⟨rfl, hd_R_events⟩ ⟨Nat.le_of_ble_eq_true rfl, Nat.le_of_ble_eq_true rfl⟩) ⟨zro_b _, va_recv hKR (zPl hP) (q0 := 0) rfl rfl, zro_p (zPl hP) hKR hN _⟩ rfl rfl hl.1 rfl (lv_room (Nat.le_of_ble_eq_true rfl)) d_L_law_597 hf0)) (fun r er => ?_)
                                  have er := er.symm
                                  subst er
                                  refine lv_icmp_eq (tgt := 628) hx hb d_L_law_600 (by decide) (fun c_600 => ?_) (fun c_600 => ?_)
                                  · skip
                                    refine W.widen (k := 37 + 2 * j + 2) (n := 1862 + 17 * j + 17) (by omega) (by omega) ?_
                                    exact hend σ ρ cm tm pl _ _ hpl hInv hP hD hS ls (lv_sub hl [0, 1, 2, 3] rfl)
                                  · skip
                                    refine lv_iconst (v := 0) hx hb d_L_law_603 (by decide) ?_
                                    exact absurd rfl c_600
                                · skip
                                  by_cases c_32_15 : ((xs (x).toNatClampNeg) &&& 15) = 15
                                  · skip
                                    refine lv_tableIn (off := 573) (tgt := 605) hx hb d_L_law_32 (by rw [c_32_15]; decide) (by rw [c_32_15]; decide) (by rw [c_32_15]; decide) (by decide) ?_
                                    refine lv_aload_n hx hb d_L_law_605 rfl (lv_at hl 1 rfl) ?_
                                    refine lv_aload_n hx hb d_L_law_606 rfl (lv_at hl 0 rfl) ?_
                                    refine lv_iload_n hx hb d_L_law_607 rfl (lv_at hl 3 rfl) ?_
                                    refine lv_iconst (v := 1) hx hb d_L_law_608 (by decide) ?_
                                    refine lv_iadd hx hb d_L_law_609 ?_
                                    refine va_sld hx hb hX hbl hbA hS hi1 d_L_law_610 ?_
                                    obtain ⟨v, hcV, hcR⟩ := hst_event (xs (x + 1).toNatClampNeg) σ ρ cm tm hInv
                                    refine vp_callSi (va_Run.run (va_runV (As := [.int (xs (x + 1).toNatClampNeg)]) (rest := []) ⟨hx, hb, hml, hown, hts⟩ (c_V_event l D [] q cM cH cW cL cB cS zT0 pl cm tm hpl σ (xs (x + 1).toNatClampNeg) v hcV) (cwV 1 hts (zg_V k_418 k_419 k_420 k_29 g_V_event) rfl rfl rfl ⟨rfl, hd_V_event⟩ ⟨Nat.le_of_ble_eq_true rfl, Nat.le_of_ble_eq_true rfl⟩) ⟨zro_b _, va_recv hKV (zPr hP) (q0 := 0) rfl rfl, zro_p (zPr hP) hKV hN _⟩ rfl rfl hl.1 rfl (lv_room (Nat.le_of_ble_eq_true rfl)) d_L_law_611 hf0)) (fun r er => ?_)
                                    have er := er.symm
                                    subst er
                                    refine lv_aload_n hx hb d_L_law_614 rfl (lv_at hl 2 rfl) ?_
                                    refine lv_aload_n hx hb d_L_law_615 rfl (lv_at hl 0 rfl) ?_
                                    refine lv_iload_n hx hb d_L_law_616 rfl (lv_at hl 3 rfl) ?_
                                    refine lv_iconst (v := 1) hx hb d_L_law_617 (by decide) ?_
                                    refine lv_iadd hx hb d_L_law_618 ?_
                                    refine va_sld hx hb hX hbl hbA hS hi1 d_L_law_619 ?_
                                    refine vp_callSi (va_Run.run (va_runV (As := [.int (xs (x + 1).toNatClampNeg)]) (rest := [.int v]) ⟨hx, hb, hml, hown, hts⟩ (c_R_event l D [] qr cR ρ (xs (x + 1).toNatClampNeg) v hcR) (cwV 1 hts (zg_V k_654 k_655 k_656 k_32 g_R_event) rfl rfl rfl ⟨rfl, hd_R_event⟩ ⟨Nat.le_of_ble_eq_true rfl, Nat.le_of_ble_eq_true rfl⟩) ⟨zro_b _, va_recv hKR (zPl hP) (q0 := 0) rfl rfl, zro_p (zPl hP) hKR hN _⟩ rfl rfl hl.1 rfl (lv_room (Nat.le_of_ble_eq_true rfl)) d_L_law_620 hf0)) (fun r er => ?_)
                                    have er := er.symm
                                    subst er
                                    refine lv_icmp_eq (tgt := 628) hx hb d_L_law_623 (by decide) (fun c_623 => ?_) (fun c_623 => ?_)
                                    · skip
                                      refine W.widen (k := 37 + 2 * j + 2) (n := 1862 + 17 * j + 17) (by omega) (by omega) ?_
                                      exact hend σ ρ cm tm pl _ _ hpl hInv hP hD hS ls (lv_sub hl [0, 1, 2, 3] rfl)
                                    · skip
                                      refine lv_iconst (v := 0) hx hb d_L_law_626 (by decide) ?_
                                      exact absurd rfl c_623
                                  · skip
                                    have e_32_0 := lv_neT c_32_0 (a := 0) (by decide)
                                    have e_32_1 := lv_neT c_32_1 (a := 1) (by decide)
                                    have e_32_2 := lv_neT c_32_2 (a := 2) (by decide)
                                    have e_32_3 := lv_neT c_32_3 (a := 3) (by decide)
                                    have e_32_4 := lv_neT c_32_4 (a := 4) (by decide)
                                    have e_32_5 := lv_neT c_32_5 (a := 5) (by decide)
                                    have e_32_6 := lv_neT c_32_6 (a := 6) (by decide)
                                    have e_32_7 := lv_neT c_32_7 (a := 7) (by decide)
                                    have e_32_8 := lv_neT c_32_8 (a := 8) (by decide)
                                    have e_32_9 := lv_neT c_32_9 (a := 9) (by decide)
                                    have e_32_10 := lv_neT c_32_10 (a := 10) (by decide)
                                    have e_32_11 := lv_neT c_32_11 (a := 11) (by decide)
                                    have e_32_12 := lv_neT c_32_12 (a := 12) (by decide)
                                    have e_32_13 := lv_neT c_32_13 (a := 13) (by decide)
                                    have e_32_14 := lv_neT c_32_14 (a := 14) (by decide)
                                    have e_32_15 := lv_neT c_32_15 (a := 15) (by decide)
                                    refine lv_tableOut (tgt := 628) hx hb d_L_law_32 (by omega) (by decide) ?_
                                    refine W.widen (k := 37 + 2 * j + 2) (n := 1862 + 17 * j + 17) (by omega) (by omega) ?_
                                    exact hend σ ρ cm tm pl _ _ hpl hInv hP hD hS ls (lv_sub hl [0, 1, 2, 3] rfl)

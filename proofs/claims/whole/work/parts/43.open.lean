set_option maxHeartbeats 4000000 in
set_option maxRecDepth 100000 in
/-- OPEN: the law from its entry, given a relation that holds at the start and that every call keeps -/
theorem whole_open (Inv : ZI) (v0 : VSt) (w0 : RSt) (hv0 : f_V_init = some v0) (hw0 : f_R_init = some w0) (hI0 : Inv v0 w0 (fun _ => none) (fun _ => none)) (hst : zSteps Inv) {p : Program} {e : Env} {s : State} {m : MethodId} {below : List Frame} {meth : Method} {c : Code} (l : Launch) {b L : Nat} {xs : Nat → Int32} (hL : L ≤ 2560) (C0 : lw_At p s m meth c b L xs) : W p l e room_1 s m #[Value.ref b] below meth c s.heap [] 0 0 (lw_Z below #[Value.ref b] s) (entryFrame m ([Value.ref b] : List Value).toArray 4) := by
  obtain ⟨hx, hb, hr, hml, hown, hts0, hX, hbl, hlocks, hgv⟩ := id C0
  have hts : ∀ w ∈ zt, w.before #[Value.ref b] s = true := fun w h => hts0 w (List.mem_filter.mp h).1
  have hA : ∀ q : Nat, s.heap.size ≤ q → (fun q : Nat => s.heap.size ≤ q) q := fun _ h => h
  have hN : zNw s := ⟨va_Nw.of rfl (hts0 (.methodLinkNest R_V 28 y_T_init R_V) (List.mem_of_getElem? (i := 50) rfl)), va_Nw.of rfl (hts0 (.methodLinkNest R_V 38 y_M_init R_V) (List.mem_of_getElem? (i := 127) rfl)), va_Nw.of rfl (hts0 (.methodLinkNest R_H 21 y_V_isIn R_V) (List.mem_of_getElem? (i := 195) rfl)), va_Nw.of rfl (hts0 (.methodLinkNest R_C 25 y_T_init R_V) (List.mem_of_getElem? (i := 231) rfl)), va_Nw.of rfl (hts0 (.methodLinkNest R_C 57 y_V_isIn R_V) (List.mem_of_getElem? (i := 299) rfl)), va_Nw.of rfl (hts0 (.methodLinkNest R_M 90 y_V_isIn R_V) (List.mem_of_getElem? (i := 353) rfl)), va_AO.of (hts0 (.arrayOver (.object R_C)) (List.mem_of_getElem? (i := 47) rfl)), va_AO.of (hts0 (.arrayOver (.object R_T)) (List.mem_of_getElem? (i := 135) rfl))⟩
  obtain ⟨c0, iS0, hKn0⟩ := u_known (C := R_T) (T := T_T) (N := 10) (n := 10) hts in_T (hts (.instantiable R_T 10) k_49)
  obtain ⟨c1, iS1, hKn1⟩ := u_known (C := R_C) (T := T_C) (N := 7) (n := 7) hts in_C (hts (.instantiable R_C 7) k_225)
  obtain ⟨c2, iS2, hKn2⟩ := u_known (C := R_M) (T := T_M) (N := 1) (n := 1) hts in_M (hts (.instantiable R_M 1) k_126)
  obtain ⟨c3, iS3, hKn3⟩ := u_known (C := R_V) (T := T_V) (N := 10) (n := 10) hts in_V (hts (.instantiable R_V 10) k_39)
  obtain ⟨c4, iS4, hKn4⟩ := u_known (C := R_R) (T := T_R) (N := 23) (n := 23) hts in_R (hts (.instantiable R_R 23) k_423)
  obtain ⟨dC, dI, hKc⟩ : ∃ (dC : Nat → ClassId) (dI : Nat → Nat → Nat), ∀ (k : Nat) (q : vw_C), vwCl[k]? = some q → u_Kn s q.1 q.2.1 q.2.2 (dC k) (dI k) := by
    refine ⟨fun k => match k with | 0 => c0 | 1 => c1 | 2 => c2 | 3 => c3 | _ => c4, fun k => match k with | 0 => iS0 | 1 => iS1 | 2 => iS2 | 3 => iS3 | _ => iS4, ?_⟩
    intro k q hq
    match k, hq with
    | 0, hq => cases hq; exact hKn0
    | 1, hq => cases hq; exact hKn1
    | 2, hq => cases hq; exact hKn2
    | 3, hq => cases hq; exact hKn3
    | 4, hq => cases hq; exact hKn4
    | k + 5, hq => simp [vwCl] at hq
  have hS : va_S (fun q : Nat => s.heap.size ≤ q) s.heap s.heap [] := va_S.rf
  have hK : va_K (dC, dI) vwCl [] s := ⟨hKc, fun k q h => by simp at h⟩
  have hP : va_P (dC, dI) vwCl [] s.heap := fun k q h => by simp at h
  have hD : va_D (fun q : Nat => s.heap.size ≤ q) [] := ⟨fun i j p q h => by simp at h, fun k q h => by simp at h⟩
  have hl := lv_entry ([.ref b]) (n := 4) (Nat.le_of_ble_eq_true rfl)
  rw [lg_entry_eq]
  generalize (lg_sl ([.ref b]) ++ List.replicate (4 - (lg_sl ([.ref b])).length) Slot.unset).toArray = ls at hl ⊢
  have hl : lv_has ls 4 [(0, .ref b)] := hl
  refine va_new (ci := 3) (fs := [.null, .int 0, .null, .null, .null, .int 0, .null, .null, .null, .null]) (C := R_V) (T := T_V) (N := 10) hx hb hts in_V ty_V ok_V hown (hts _ k_38) (hts _ k_39) (hts _ k_29) hK hP hD hS hA rfl (fun j hj => by rcases (show j = 0 ∨ j = 1 ∨ j = 2 ∨ j = 3 ∨ j = 4 ∨ j = 5 ∨ j = 6 ∨ j = 7 ∨ j = 8 ∨ j = 9 by omega) with rfl | rfl | rfl | rfl | rfl | rfl | rfl | rfl | rfl | rfl <;> rfl) (Nat.le_of_ble_eq_true rfl) (Nat.le_of_ble_eq_true rfl) d_L_law_0 (fun qv H hP hD hS => ?_)
  have hP : va_P (dC, dI) vwCl ([] ++ [(qv, .inr (3, [.null, .int 0, .null, .null, .null, .int 0, .null, .null, .null, .null]))]) H := hP
  have hD : va_D (fun q : Nat => s.heap.size ≤ q) ([] ++ [(qv, .inr (3, [.null, .int 0, .null, .null, .null, .int 0, .null, .null, .null, .null]))]) := hD
  refine lv_dup hx hb d_L_law_3 rfl ?_
  refine zhk_v (U := (Nat → Nat) × (Nat → ClassId)) (wa := []) (wb := [(qv, .inr (3, [.null, .int 0, .null, .null, .null, .int 0, .null, .null, .null, .null]))] ++ []) (post := fun u => u.1 0 = qv) (wb' := fun u => zX u.1 (u.2 0) (u.2 1) (u.2 2) (u.2 3) (u.2 4) (u.2 5) zT0 v0) (tys1 := fun u => [(u.2 0, .object R_C), (u.2 1, .int), (u.2 2, .boolean), (u.2 3, .int), (u.2 4, .int), (u.2 5, .object R_T)]) (va_runI (As := []) (rest := [.ref qv]) ⟨hx, hb, hml, hown, hts⟩ (c_V_init l (dC, dI) _ qv v0 hv0) (cwI 0 hts g_V_init rfl rfl rfl (hts _ k_29) (hts _ k_40) (hts _ k_41) rfl hd_V_init ⟨Nat.le_of_ble_eq_true rfl, Nat.le_of_ble_eq_true rfl⟩) ⟨zrw_b _, zrw_w (ws := [(qv, .inr (3, [.null, .int 0, .null, .null, .null, .int 0, .null, .null, .null, .null]))] ++ []) (zPr (wa := []) hP) (zDr (wa := []) hD) hK hN _⟩ rfl rfl hl.1 rfl (lv_room (Nat.le_of_ble_eq_true rfl)) d_L_law_4 ⟨Nat.le_of_ble_eq_true rfl, Nat.le_of_ble_eq_true rfl⟩) hP hD hS hA (fun u_V_init H locs hq_V_init hK_V_init hP9 hD9 hS => ?_)
  obtain ⟨q, cV⟩ := u_V_init
  dsimp only at hq_V_init hK_V_init hP9 hD9
  clear hP hD
  subst hq_V_init
  have hP : va_P (dC, dI) vwCl (zX q (cV 0) (cV 1) (cV 2) (cV 3) (cV 4) (cV 5) zT0 v0) H := hP9
  have hD : va_D (fun q : Nat => s.heap.size ≤ q) (zX q (cV 0) (cV 1) (cV 2) (cV 3) (cV 4) (cV 5) zT0 v0) := hD9
  refine lv_astore_n (lv' := [(1, .ref (q 0)), (0, .ref b)]) hx hb d_L_law_7 rfl hl (by decide) rfl (fun ls hl => ?_)
  refine va_new (ci := 4) (fs := [.null, .null, .null, .null, .null, .null, .null, .null, .null, .null, .null, .int 0, .null, .null, .null, .null, .null, .null, .int 0, .null, .null, .null, .null]) (C := R_R) (T := T_R) (N := 23) hx hb hts in_R ty_R ok_R hown (hts _ k_422) (hts _ k_423) (hts _ k_32) hK hP hD hS hA rfl (fun j hj => by rcases (show j = 0 ∨ j = 1 ∨ j = 2 ∨ j = 3 ∨ j = 4 ∨ j = 5 ∨ j = 6 ∨ j = 7 ∨ j = 8 ∨ j = 9 ∨ j = 10 ∨ j = 11 ∨ j = 12 ∨ j = 13 ∨ j = 14 ∨ j = 15 ∨ j = 16 ∨ j = 17 ∨ j = 18 ∨ j = 19 ∨ j = 20 ∨ j = 21 ∨ j = 22 by omega) with rfl | rfl | rfl | rfl | rfl | rfl | rfl | rfl | rfl | rfl | rfl | rfl | rfl | rfl | rfl | rfl | rfl | rfl | rfl | rfl | rfl | rfl | rfl <;> rfl) (Nat.le_of_ble_eq_true rfl) (Nat.le_of_ble_eq_true rfl) d_L_law_8 (fun qm H hP hD hS => ?_)
  refine lv_dup hx hb d_L_law_11 rfl ?_
  refine zhk_v (U := (Nat → Nat) × (Nat → ClassId)) (wa := zX q (cV 0) (cV 1) (cV 2) (cV 3) (cV 4) (cV 5) zT0 v0) (wb := [(qm, .inr (4, [.null, .null, .null, .null, .null, .null, .null, .null, .null, .null, .null, .int 0, .null, .null, .null, .null, .null, .null, .int 0, .null, .null, .null, .null]))] ++ []) (post := fun u => u.1 0 = qm) (wb' := fun u => zR u.1 u.2 w0) (tys1 := fun u => zRt u.2) (va_runI (As := []) (rest := [.ref qm]) ⟨hx, hb, hml, hown, hts⟩ (c_R_init l (dC, dI) _ qm w0 hw0) (cwI 0 hts g_R_init rfl rfl rfl (hts _ k_32) (hts _ k_424) (hts _ k_425) rfl hd_R_init ⟨Nat.le_of_ble_eq_true rfl, Nat.le_of_ble_eq_true rfl⟩) ⟨zrw_b _, zrw_w (ws := [(qm, .inr (4, [.null, .null, .null, .null, .null, .null, .null, .null, .null, .null, .null, .int 0, .null, .null, .null, .null, .null, .null, .int 0, .null, .null, .null, .null]))] ++ []) (zPr (wa := zX q (cV 0) (cV 1) (cV 2) (cV 3) (cV 4) (cV 5) zT0 v0) hP) (zDr (wa := zX q (cV 0) (cV 1) (cV 2) (cV 3) (cV 4) (cV 5) zT0 v0) hD) hK hN _⟩ rfl rfl hl.1 rfl (lv_room (Nat.le_of_ble_eq_true rfl)) d_L_law_12 ⟨Nat.le_of_ble_eq_true rfl, Nat.le_of_ble_eq_true rfl⟩) hP hD hS hA (fun u_R_init H locs hq_R_init hK_R_init hP9 hD9 hS => ?_)
  obtain ⟨qr, cR⟩ := u_R_init
  dsimp only at hq_R_init hK_R_init hP9 hD9
  clear hP hD
  subst hq_R_init
  have hP := zPs hP9
  have hD := zDs hD9
  refine lv_astore_n (lv' := [(2, .ref (qr 0)), (1, .ref (q 0)), (0, .ref b)]) hx hb d_L_law_15 rfl hl (by decide) rfl (fun ls hl => ?_)
  refine lv_iconst (v := 0) hx hb d_L_law_16 (by decide) ?_
  refine lv_istore_n (lv' := [(3, .int 0), (2, .ref (qr 0)), (1, .ref (q 0)), (0, .ref b)]) hx hb d_L_law_17 rfl hl (by decide) rfl (fun ls hl => ?_)
  refine W.widen (k := 37 + 2 * 0) (n := 1862 + 17 * 0) (Nat.le_of_ble_eq_true rfl) (Nat.le_of_ble_eq_true rfl) ?_
  exact law_loop hL C0 hN q (cV 0) (cV 1) (cV 2) (cV 3) (cV 4) (cV 5) qr cR hK_V_init hK_R_init Inv hst 513 0 (by omega) (by omega) (by omega) v0 w0 (fun _ => none) (fun _ => none) [] _ _ ⟨fun _ _ h => by simp at h, fun _ _ h => by simp at h⟩ hI0 (by rw [List.append_nil]; exact hP) (by rw [List.append_nil]; exact hD) hS ls (lv_sub hl [3, 2, 1, 0] rfl)

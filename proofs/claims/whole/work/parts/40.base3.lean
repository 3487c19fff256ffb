-- BASE 3: a world of two halves (the law's), and what is asked of the pure side
theorem zPl {D : va_G} {cl : List vw_C} {wa wb : va_W} {H : Heap} (h : va_P D cl (wa ++ wb) H) : va_P D cl wa H :=
  fun k q hk => h k q (by rw [List.getElem?_append_left (List.getElem?_eq_some_iff.mp hk).1]; exact hk)
theorem zPr {D : va_G} {cl : List vw_C} {wa wb : va_W} {H : Heap} (h : va_P D cl (wa ++ wb) H) : va_P D cl wb H :=
  fun k q hk => h (wa.length + k) q (zpl_get hk)
theorem zDl {A : Nat → Prop} {wa wb : va_W} (h : va_D A (wa ++ wb)) : va_D A wa :=
  ⟨fun i j p q hi hj e => h.1 i j p q (by rw [List.getElem?_append_left (List.getElem?_eq_some_iff.mp hi).1]; exact hi) (by rw [List.getElem?_append_left (List.getElem?_eq_some_iff.mp hj).1]; exact hj) e,
   fun k q hk => h.2 k q (by rw [List.getElem?_append_left (List.getElem?_eq_some_iff.mp hk).1]; exact hk)⟩
theorem zDr {A : Nat → Prop} {wa wb : va_W} (h : va_D A (wa ++ wb)) : va_D A wb :=
  ⟨fun i j p q hi hj e => by have := h.1 _ _ p q (zpl_get hi) (zpl_get hj) e; omega, fun k q hk => h.2 _ q (zpl_get hk)⟩
theorem zDx {A : Nat → Prop} {wa wb : va_W} (h : va_D A (wa ++ wb)) : ∀ (i j : Nat) (p q : Nat × va_E), wa[i]? = some p → wb[j]? = some q → p.1 ≠ q.1 := by
  intro i j p q hi hj e
  have hlt := (List.getElem?_eq_some_iff.mp hi).1
  have := h.1 _ _ p q (by rw [List.getElem?_append_left hlt]; exact hi) (zpl_get hj) e
  omega
theorem zhalf {A : Nat → Prop} {D : va_G} {cl : List vw_C} {wa wb wb' : va_W} {H H1 : Heap} (hPa : va_P D cl wa H) (hDa : va_D A wa) (hx : ∀ (i j : Nat) (p q : Nat × va_E), wa[i]? = some p → wb[j]? = some q → p.1 ≠ q.1)
    (hk : ∀ q : Nat, q < H.size → ¬ va_A wb H.size q → H1[q]? = H[q]?) (hF : ∀ q, va_A wb H.size q → A q) (hD1 : va_D (va_A wb H.size) wb') :
    va_P D cl wa H1 ∧ va_D A wb' ∧ ∀ (i j : Nat) (p q : Nat × va_E), wa[i]? = some p → wb'[j]? = some q → p.1 ≠ q.1 := by
  refine ⟨fun k q hq => (hPa k q hq).kept (hk q.1 (hPa k q hq).lt ?_), hD1.weaken (fun _ q _ h => hF q.1 h), fun i j p q hi hj e => ?_⟩
  · rintro (⟨j, e, hj⟩ | h)
    · exact hx k j q (q.1, e) hq hj rfl
    · exact absurd h (Nat.not_le.mpr (hPa k q hq).lt)
  · rcases hD1.2 j q hj with ⟨t, e2, ht⟩ | h
    · exact hx i t p (q.1, e2) hi ht e
    · exact absurd h (Nat.not_le.mpr (e ▸ (hPa i p hi).lt))
section
variable {p : Program} {l : Launch} {e : Env} {R : Room} {s : State} {m : MethodId} {args : Array Value} {below : List Frame} {meth : Method} {c : Code} {H H0 : Heap} {locs : List Loc} {cells slots mc ms pc : Nat} {Q : State → Prop} {ls : Array Slot} {st0 rest : List Value} {a : Array Value} {D : va_G} {tys : List (ClassId × FieldType)} {wa wb : va_W} {A : Nat → Prop} {U : Type}
theorem zhr_i {post : U → Int32} {wb' : U → va_W} (hr : va_Run p l e R s m args below meth c H locs cells slots mc ms (F0 m pc ls st0) rest (va_Qi (fun r (u : U) => r = post u) (fun u t => zwd D tys (va_A wb H.size) (wb' u) t) (va_A wb H.size) a) (va_A wb H.size))
    (hP : va_P D vwCl (wa ++ wb) H) (hD : va_D A (wa ++ wb)) (hS : va_S A H0 H locs) (hA : ∀ q, H0.size ≤ q → A q)
    (kk : ∀ (u : U) (H1 : Heap) (locs1 : List Loc), va_P D vwCl (wa ++ wb' u) H1 → va_D A (wa ++ wb' u) → va_S A H0 H1 locs1 → W p l e R s m args below meth c H1 locs1 (cells + mc) (slots + ms) Q (F0 m (pc + 3) ls (.int (post u) :: rest))) : W p l e R s m args below meth c H locs cells slots Q (F0 m pc ls st0) := by
  have hF := zfreeW (zDr hD) hS hA
  refine va_calli hr hS (fun q _ h => hF q h) hF (fun r u t H1 locs1 ht hvm hw hB hz1 hk1 hS1 => ?_)
  obtain ⟨hP1, -, hD1⟩ := hB
  rw [ht] at hP1
  subst hw
  obtain ⟨h1, h2, h3⟩ := zhalf (zPl hP) (zDl hD) (zDx hD) hk1 hF hD1
  exact kk u H1 locs1 (h1.app hP1) ((zDl hD).app h2 h3) hS1
theorem zhl_i {post : U → Int32} {wa' : U → va_W} (hr : va_Run p l e R s m args below meth c H locs cells slots mc ms (F0 m pc ls st0) rest (va_Qi (fun r (u : U) => r = post u) (fun u t => zwd D tys (va_A wa H.size) (wa' u) t) (va_A wa H.size) a) (va_A wa H.size))
    (hP : va_P D vwCl (wa ++ wb) H) (hD : va_D A (wa ++ wb)) (hS : va_S A H0 H locs) (hA : ∀ q, H0.size ≤ q → A q)
    (kk : ∀ (u : U) (H1 : Heap) (locs1 : List Loc), va_P D vwCl (wa' u ++ wb) H1 → va_D A (wa' u ++ wb) → va_S A H0 H1 locs1 → W p l e R s m args below meth c H1 locs1 (cells + mc) (slots + ms) Q (F0 m (pc + 3) ls (.int (post u) :: rest))) : W p l e R s m args below meth c H locs cells slots Q (F0 m pc ls st0) := by
  have hF := zfreeW (zDl hD) hS hA
  refine va_calli hr hS (fun q _ h => hF q h) hF (fun r u t H1 locs1 ht hvm hw hB hz1 hk1 hS1 => ?_)
  obtain ⟨hP1, -, hD1⟩ := hB
  rw [ht] at hP1
  subst hw
  obtain ⟨h1, h2, h3⟩ := zhalf (zPr hP) (zDr hD) (fun i j p q hi hj e => zDx hD j i q p hj hi e.symm) hk1 hF hD1
  exact kk u H1 locs1 (hP1.app h1) (h2.app (zDr hD) (fun i j p q hi hj e => h3 j i q p hj hi e.symm)) hS1
end
def zcm (cm : Nat → Option ComV) (qn : Nat × Nat) (o : Option (ComV × TreeV)) : Nat → Option ComV := match o with
  | none => cm
  | some w => va_up cm qn.1 (some w.1)
def ztm (tm : Nat → Option TreeV) (qn : Nat × Nat) (o : Option (ComV × TreeV)) : Nat → Option TreeV := match o with
  | none => tm
  | some w => va_up tm qn.2 (some w.2)
/-- what is made lies where nothing lay -/
def zFr (cm : Nat → Option ComV) (tm : Nat → Option TreeV) (qn : Nat × Nat) (o : Option (ComV × TreeV)) : Prop := o ≠ none → cm qn.1 = none ∧ tm qn.2 = none
theorem zpool_zpn {pl : va_W} {cm : Nat → Option ComV} {tm : Nat → Option TreeV} (h : zpool pl cm tm) (qn : Nat × Nat) (o : Option (ComV × TreeV)) : zpool (zpn pl qn o) (zcm cm qn o) (ztm tm qn o) := by
  cases o with
  | none => exact h
  | some w =>
    have h' := zpool_app (x := [(qn.1, zcC w.1), (qn.2, zcT w.2)]) h
    refine ⟨fun y c hc => ?_, fun y c hc => ?_⟩
    · simp only [zcm, va_up] at hc
      split at hc
      · next e => cases hc; subst e; exact ⟨pl.length, by simp [zpn]⟩
      · exact h'.1 y c hc
    · simp only [ztm, va_up] at hc
      split at hc
      · next e => cases hc; subst e; exact ⟨pl.length + 1, by simp [zpn]⟩
      · exact h'.2 y c hc
theorem zFr_of {A : Nat → Prop} {X pl : va_W} {cm : Nat → Option ComV} {tm : Nat → Option TreeV} (h : zpool pl cm tm) (qn : Nat × Nat) (o : Option (ComV × TreeV)) (hD : va_D A (X ++ zpn pl qn o)) : zFr cm tm qn o := by
  cases o with
  | none => exact fun h => absurd rfl h
  | some w =>
    intro _
    have hx := zDx (zDr hD)
    constructor
    · cases hc : cm qn.1 with
      | none => rfl
      | some c => obtain ⟨k, hk⟩ := h.1 _ _ hc; exact absurd (rfl : qn.1 = qn.1) (hx k 0 (qn.1, zcC c) (qn.1, zcC w.1) hk rfl)
    · cases hc : tm qn.2 with
      | none => rfl
      | some c => obtain ⟨k, hk⟩ := h.2 _ _ hc; exact absurd (rfl : qn.2 = qn.2) (hx k 1 (qn.2, zcT c) (qn.2, zcT w.2) hk rfl)
abbrev ZI : Type := VSt → RSt → (Nat → Option ComV) → (Nat → Option TreeV) → Prop
/-- both sides answer, and alike; the relation stays: a call that may make a commit, one that writes, one that reads -/
def zst_mk (Inv : ZI) (F : (Nat → Option ComV) → (Nat → Option TreeV) → VSt → Nat × Nat → Option (Int32 × VSt × Option (ComV × TreeV))) (G : RSt → Option (Int32 × RSt)) : Prop :=
  ∀ σ ρ cm tm, Inv σ ρ cm tm → ∃ (v : Nat × Nat → Int32 × VSt × Option (ComV × TreeV)) (w : Int32 × RSt), (∀ qn, F cm tm σ qn = some (v qn)) ∧ G ρ = some w ∧ (∀ qn, (v qn).1 = w.1) ∧ ∀ qn, zFr cm tm qn (v qn).2.2 → Inv (v qn).2.1 w.2 (zcm cm qn (v qn).2.2) (ztm tm qn (v qn).2.2)
def zst_rw (Inv : ZI) (F : (Nat → Option ComV) → (Nat → Option TreeV) → VSt → Option (Int32 × VSt)) (G : RSt → Option (Int32 × RSt)) : Prop :=
  ∀ σ ρ cm tm, Inv σ ρ cm tm → ∃ v w, F cm tm σ = some v ∧ G ρ = some w ∧ v.1 = w.1 ∧ Inv v.2 w.2 cm tm
def zst_ro {α : Type} (Inv : ZI) (F : (Nat → Option ComV) → (Nat → Option TreeV) → VSt → Option α) (G : RSt → Option α) : Prop :=
  ∀ σ ρ cm tm, Inv σ ρ cm tm → ∃ v, F cm tm σ = some v ∧ G ρ = some v
theorem zlw_in {L i k : Nat} (hL : L ≤ 2560) (h : i + 5 ≤ L) (hk : k < 5) : vp_in (nI i + nI k) L := by
  rw [nI_add]; exact vp_in_nI (by omega) (by omega)
theorem zlw_ex {L i : Nat} (hL : L ≤ 2560) (hi : i ≤ 2560) (h : ¬ (Int32.ofNat L - 5 < nI i)) : i + 5 ≤ L := by
  rcases Nat.lt_or_ge L (i + 5) with q | q
  · refine absurd ?_ h
    rw [Int32.lt_iff_toInt_lt, nI_toInt (by omega)]
    have e : (Int32.ofNat L - 5).toInt = (L : Int) - 5 := by
      have := pk_sub_toInt (a := L) (b := 5) (by omega) (by omega)
      exact this
    rw [e]; omega
  · exact q
section
variable {p : Program} {l : Launch} {e : Env} {R : Room} {s : State} {m : MethodId} {args : Array Value} {below : List Frame} {meth : Method} {c : Code} {H H0 : Heap} {locs : List Loc} {cells slots mc ms pc : Nat} {Q : State → Prop} {ls : Array Slot} {st0 rest : List Value} {a : Array Value} {D : va_G} {wa wb : va_W} {A : Nat → Prop} {U : Type}
theorem zhk_v {post : U → Prop} {wb' : U → va_W} {tys1 : U → List (ClassId × FieldType)} (hr : va_Run p l e R s m args below meth c H locs cells slots mc ms (F0 m pc ls st0) rest (va_Qv post (fun u t => zwd D (tys1 u) (va_A wb H.size) (wb' u) t) (va_A wb H.size) a) (va_A wb H.size))
    (hP : va_P D vwCl (wa ++ wb) H) (hD : va_D A (wa ++ wb)) (hS : va_S A H0 H locs) (hA : ∀ q, H0.size ≤ q → A q)
    (kk : ∀ (u : U) (H1 : Heap) (locs1 : List Loc), post u → va_K D vwCl (tys1 u) s → va_P D vwCl (wa ++ wb' u) H1 → va_D A (wa ++ wb' u) → va_S A H0 H1 locs1 → W p l e R s m args below meth c H1 locs1 (cells + mc) (slots + ms) Q (F0 m (pc + 3) ls rest)) : W p l e R s m args below meth c H locs cells slots Q (F0 m pc ls st0) := by
  have hF := zfreeW (zDr hD) hS hA
  refine va_callv hr hS (fun q _ h => hF q h) hF (fun u t H1 locs1 ht hvm hw hB hz1 hk1 hS1 => ?_)
  obtain ⟨hP1, hK1, hD1⟩ := hB
  rw [ht] at hP1
  obtain ⟨h1, h2, h3⟩ := zhalf (zPl hP) (zDl hD) (zDx hD) hk1 hF hD1
  exact kk u H1 locs1 hw (va_K.moved hvm.symm hK1) (h1.app hP1) ((zDl hD).app h2 h3) hS1
end
theorem zPs {D : va_G} {cl : List vw_C} {wa wb : va_W} {H : Heap} (h : va_P D cl (wa ++ wb) H) : va_P D cl (wb ++ wa) H := (zPr h).app (zPl h)
theorem zDs {A : Nat → Prop} {wa wb : va_W} (h : va_D A (wa ++ wb)) : va_D A (wb ++ wa) := (zDr h).app (zDl h) (fun i j p q hi hj e => zDx h j i q p hj hi e.symm)

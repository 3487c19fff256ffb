-- THE BASE: what it is
def mgs (b x y : TreeV) : Int32 × TreeV := match f_M_mergeInto x (fun _ => 0) b y with
  | some v => (v.1, v.2.1)
  | none => (0, x)
def sel {α : Type} (a b c : α) (t : Nat) : α := if t = 0 then a else if t = 1 then b else c
theorem mk3 {b x y : TreeV} {lb lx ly : List Nat} (hb : zTl b lb) (hx : zTl x lx) (hy : zTl y ly) : ∃ ρ : RSt, zTr ρ 0 b ∧ zTr ρ 1 x ∧ zTr ρ 2 y := by
  have h0 : ∃ ρ0, f_R_init = some ρ0 := ⟨_, rfl⟩
  obtain ⟨ρ0, -⟩ := h0
  have l1 := hb.1.1
  have l2 := hx.1.1
  have l3 := hy.1.1
  refine ⟨(((((sel b.1 x.1 y.1, sel b.2.1 x.2.1 y.2.1), sel b.2.2.1 x.2.2.1 y.2.2.1), ((sel b.2.2.2.1 x.2.2.2.1 y.2.2.2.1, sel (b.2.2.2.2.1.toInt64 &&& 4294967295) (x.2.2.2.2.1.toInt64 &&& 4294967295) (y.2.2.2.2.1.toInt64 &&& 4294967295)), sel (Int32.ofNat lb.length) (Int32.ofNat lx.length) (Int32.ofNat ly.length))), ((((fun j => if j < 8 then qn lb[j]? else if j < 16 then qn lx[j - 8]? else qn ly[j - 16]?), sel b.2.2.2.2.2.2.1 x.2.2.2.2.2.2.1 y.2.2.2.2.2.2.1), sel b.2.2.2.2.2.2.2.1 x.2.2.2.2.2.2.2.1 y.2.2.2.2.2.2.2.1), ((sel b.2.2.2.2.2.2.2.2.1 x.2.2.2.2.2.2.2.2.1 y.2.2.2.2.2.2.2.2.1, sel b.2.2.2.2.2.2.2.2.2 x.2.2.2.2.2.2.2.2.2 y.2.2.2.2.2.2.2.2.2), ρ0.1.2.2.2))), ρ0.2), ⟨⟨rfl, rfl, rfl, rfl, rfl, rfl, rfl, rfl, rfl⟩, lb, hb, rfl, fun i e he => ?_⟩, ⟨⟨rfl, rfl, rfl, rfl, rfl, rfl, rfl, rfl, rfl⟩, lx, hx, rfl, fun i e he => ?_⟩, ⟨⟨rfl, rfl, rfl, rfl, rfl, rfl, rfl, rfl, rfl⟩, ly, hy, rfl, fun i e he => ?_⟩⟩
  · have hi : i < lb.length := (List.getElem?_eq_some_iff.mp he).1
    show (if 8 * 0 + i < 8 then qn lb[8 * 0 + i]? else _) = _
    rw [if_pos (by omega), show 8 * 0 + i = i by omega, he]; rfl
  · have hi : i < lx.length := (List.getElem?_eq_some_iff.mp he).1
    show (if 8 * 1 + i < 8 then _ else if 8 * 1 + i < 16 then qn lx[8 * 1 + i - 8]? else _) = _
    rw [if_neg (by omega), if_pos (by omega), show 8 * 1 + i - 8 = i by omega, he]; rfl
  · have hi : i < ly.length := (List.getElem?_eq_some_iff.mp he).1
    show (if 8 * 2 + i < 8 then _ else if 8 * 2 + i < 16 then _ else qn ly[8 * 2 + i - 16]?) = _
    rw [if_neg (by omega), if_neg (by omega), show 8 * 2 + i - 16 = i by omega, he]; rfl
theorem mgs_of {b x y : TreeV} {code : Int32} {t' : TreeV} (h : ∀ bf, ∃ bf', f_M_mergeInto x bf b y = some (code, t', bf')) : mgs b x y = (code, t') := by
  obtain ⟨bf', e⟩ := h (fun _ => 0)
  unfold mgs
  rw [e]
theorem mgs_ok {b x y : TreeV} (hb : zTw b) (hx : zTw x) (hy : zTw y) : (∀ bf, ∃ bf', f_M_mergeInto x bf b y = some ((mgs b x y).1, (mgs b x y).2, bf')) ∧ ((mgs b x y).1 = 0 → zTw (mgs b x y).2) := by
  obtain ⟨lb, hb⟩ := hb
  obtain ⟨lx, hx⟩ := hx
  obtain ⟨ly, hy⟩ := hy
  obtain ⟨ρ, r1, r2, r3⟩ := mk3 hb hx hy
  obtain ⟨code, t', ρ', a1, a2, a3, a4⟩ := mt_eq (tb := 0) (tx := 1) (ty := 2) (by decide) (by decide) (by decide) (by decide) (by decide) (by decide) r1 r2 r3
  rw [mgs_of a1]
  exact ⟨a1, fun h => zTr_w (a4 h)⟩
def stp (T : Nat → TreeV) (B : Nat → Int32 × TreeV) (acc : Int32 × TreeV) (m : Nat) : Int32 × TreeV := if acc.1 = 0 then (if (B m).1 = 0 then mgs (B m).2 acc.2 (T m) else B m) else acc
/-- the base of two commits, k depths before the last -/
def BaS (T : Nat → TreeV) (ml : Nat → Nat → List Nat) : Nat → Nat → Nat → Int32 × TreeV
  | 0, c, d => match ml c d with
    | [] => (0, zT0)
    | f :: _ => (0, T f)
  | k + 1, c, d => match ml c d with
    | [] => (0, zT0)
    | f :: rest => rest.foldl (stp T (BaS T ml k f)) (0, T f)
theorem fold_stuck (T : Nat → TreeV) (B : Nat → Int32 × TreeV) : ∀ (l : List Nat) (a : Int32 × TreeV), a.1 ≠ 0 → l.foldl (stp T B) a = a := by
  intro l
  induction l with
  | nil => intro a _; rfl
  | cons m l ih =>
    intro a h
    rw [List.foldl_cons]
    have : stp T B a m = a := by unfold stp; rw [if_neg h]
    rw [this]
    exact ih a h
/-- what a base leaves alone -/
def SM (j : Nat) (σ σ' : VSt) : Prop := (σ'.1 = σ.1 ∧ σ'.2.1 = σ.2.1 ∧ σ'.2.2.1 = σ.2.2.1 ∧ σ'.2.2.2.1 = σ.2.2.2.1 ∧ σ'.2.2.2.2.1 = σ.2.2.2.2.1 ∧ σ'.2.2.2.2.2.1 = σ.2.2.2.2.2.1) ∧ (0 < j → σ'.2.2.2.2.2.2.2.2.1 = σ.2.2.2.2.2.2.2.2.1) ∧ (1 < j → σ'.2.2.2.2.2.2.2.2.2.1 = σ.2.2.2.2.2.2.2.2.2.1) ∧ (2 < j → σ'.2.2.2.2.2.2.2.2.2.2.1 = σ.2.2.2.2.2.2.2.2.2.2.1) ∧ (3 < j → σ'.2.2.2.2.2.2.2.2.2.2.2.1 = σ.2.2.2.2.2.2.2.2.2.2.2.1)
theorem SM_r (j : Nat) (σ : VSt) : SM j σ σ := ⟨⟨rfl, rfl, rfl, rfl, rfl, rfl⟩, fun _ => rfl, fun _ => rfl, fun _ => rfl, fun _ => rfl⟩
theorem SM_t {j : Nat} {a b c : VSt} (h : SM j a b) (g : SM j b c) : SM j a c := by
  obtain ⟨⟨h1, h2, h3, h4, h5, h6⟩, h7, h8, h9, h10⟩ := h
  obtain ⟨⟨g1, g2, g3, g4, g5, g6⟩, g7, g8, g9, g10⟩ := g
  exact ⟨⟨g1.trans h1, g2.trans h2, g3.trans h3, g4.trans h4, g5.trans h5, g6.trans h6⟩, fun i => (g7 i).trans (h7 i), fun i => (g8 i).trans (h8 i), fun i => (g9 i).trans (h9 i), fun i => (g10 i).trans (h10 i)⟩
theorem SM_d {j : Nat} {a b : VSt} (h : SM (j + 1) a b) : SM j a b :=
  ⟨h.1, fun i => h.2.1 (by omega), fun i => h.2.2.1 (by omega), fun i => h.2.2.2.1 (by omega), fun i => h.2.2.2.2 (by omega)⟩
def WS (n : Nat) (σ : VSt) (ρ : RSt) (cm : Nat → Option ComV) (tm : Nat → Option TreeV) (T : Nat → TreeV) : Prop := n ≤ 60 ∧ σ.1 = Int32.ofNat n ∧ CMT n σ ρ cm tm ∧ ∀ i, i < n → ∃ y c, σ.2.2.1 i = some y ∧ cm y = some c ∧ tm c.2.2.2.2.1 = some (T i) ∧ c.1 = Int32.ofNat i ∧ zTw (T i)
theorem CMT_made {n : Nat} {σ σ' : VSt} {ρ : RSt} {cm : Nat → Option ComV} {tm : Nat → Option TreeV} (e : σ'.2.2.1 = σ.2.2.1) (h : CMT n σ ρ cm tm) : CMT n σ' ρ cm tm := by
  intro i hi
  obtain ⟨y, c, t, h⟩ := h i hi
  refine ⟨y, c, t, ?_⟩
  unfold CM1 PAR at *
  rw [e]
  exact h
theorem WS_SM {n j : Nat} {σ σ' : VSt} {ρ : RSt} {cm : Nat → Option ComV} {tm : Nat → Option TreeV} {T : Nat → TreeV} (h : SM j σ σ') (w : WS n σ ρ cm tm T) : WS n σ' ρ cm tm T := by
  obtain ⟨w1, w2, w3, w4⟩ := w
  refine ⟨w1, h.1.1.trans w2, CMT_made h.1.2.2.1 w3, ?_⟩
  rw [h.1.2.2.1]
  exact w4
theorem zo_some {α β : Type} (y : α) (a : β) (f : α → β) : zo_m (some y) a f = f y := rfl
theorem zo_none {α β : Type} (a : β) (f : α → β) : zo_m (none : Option α) a f = a := rfl
theorem become_eq {x y : TreeV} (h : zTw y) : f_T_become x y = some y := by
  obtain ⟨l, h⟩ := h
  unfold f_T_become
  rw [if_pos h.2.2.1]
theorem zT0_w : zTw zT0 := ⟨[], ⟨by decide, fun e he => by cases he⟩, rfl, Or.inl rfl, fun _ => rfl⟩
theorem ML_rest {A : Nat → Int64} {n c d f : Nat} {rest : List Nat} (h : ML A n c d 0 = f :: rest) : rest = ML A n c d (f + 1) := by
  have h0 : (ML A n c d 0)[0]? = some f := by rw [h]; rfl
  apply List.ext_getElem?
  intro i
  rw [ML_next n 0 0 f (by omega) h0 i, h, show 0 + 1 + i = i + 1 by omega, List.getElem?_cons_succ]
section
variable {n : Nat} {ρ : RSt} {cm : Nat → Option ComV} {tm : Nat → Option TreeV} {T : Nat → TreeV}
theorem lb4 {σ : VSt} (w : WS n σ ρ cm tm T) {c d yc yd : Nat} (hc : c < n) (hd : d < n) (ec : σ.2.2.1 c = some yc) (ed : σ.2.2.1 d = some yd) :
    ∃ code σ', f_V_layBase_4 zT0 cm tm σ yc yd = some (code, σ') ∧ code = (BaS T (fun c d => ML ρ.2.1.1.2 n c d 0) 0 c d).1 ∧ SM 4 σ σ' ∧ (code = 0 → σ'.2.2.2.2.2.2.2.2.2.2.2.2 = (BaS T (fun c d => ML ρ.2.1.1.2 n c d 0) 0 c d).2 ∧ zTw (BaS T (fun c d => ML ρ.2.1.1.2 n c d 0) 0 c d).2) := by
  obtain ⟨w1, w2, w3, w4⟩ := w
  unfold f_V_layBase_4
  obtain ⟨m, m1, m2⟩ := meetsOf_eq (em := zT0) w1 w2 w3 hc hd ec ed
  rw [m1, ob, show (0 : Int32) = Int32.ofNat 0 from rfl, nextIn_eq w1 m2 (by omega), ob, BaS]
  cases hL : ML ρ.2.1.1.2 n c d 0 with
  | nil =>
    show ∃ code σ', Option.bind (f_V_commitAt zT0 cm tm σ (-1)) _ = some (code, σ') ∧ _
    rw [commitAt_n w1 w2 (m1_none w1), ob, zo_none, become_eq zT0_w, ob]
    exact ⟨_, _, rfl, rfl, ⟨⟨rfl, rfl, rfl, rfl, rfl, rfl⟩, fun _ => rfl, fun _ => rfl, fun _ => rfl, fun _ => rfl⟩, fun _ => ⟨rfl, zT0_w⟩⟩
  | cons f rest =>
    have hf := ML_mem (show f ∈ ML ρ.2.1.1.2 n c d 0 by rw [hL]; exact List.mem_cons_self)
    obtain ⟨y, o, o1, o2, o3, o4, o5⟩ := w4 f hf.2.1
    show ∃ code σ', Option.bind (f_V_commitAt zT0 cm tm σ (Int32.ofNat f)) _ = some (code, σ') ∧ _
    rw [commitAt_y w1 w2 hf.2.1 o1, ob, zo_some, o2, ob, o3, ob, become_eq o5, ob]
    exact ⟨_, _, rfl, rfl, ⟨⟨rfl, rfl, rfl, rfl, rfl, rfl⟩, fun _ => rfl, fun _ => rfl, fun _ => rfl, fun _ => rfl⟩, fun _ => ⟨rfl, o5⟩⟩
theorem lbL3 {v11 : Int64} {c d f yf : Nat} (hf : f < n) (hm : ∀ e < 60, bl v11 e = (decide (e < n) && mtb ρ.2.1.1.2 n c d e)) : ∀ (j e : Nat), e + j = n → ∀ (g : VSt), WS n g ρ cm tm T → g.2.2.1 f = some yf → zTw g.2.2.2.2.2.2.2.2.2.2.2.1 → ∀ q,
    (((ML ρ.2.1.1.2 n c d e).foldl (stp T (BaS T (fun c d => ML ρ.2.1.1.2 n c d 0) 0 f)) (0, g.2.2.2.2.2.2.2.2.2.2.2.1)).1 = 0 ∧ ∃ x g', L_V_layBase_3_71 zT0 cm tm v11 yf (q + (j + 1)) (Int32.ofNat e) g = some (Sum.inr (x, g')) ∧ SM 3 g g' ∧ g'.2.2.2.2.2.2.2.2.2.2.2.1 = ((ML ρ.2.1.1.2 n c d e).foldl (stp T (BaS T (fun c d => ML ρ.2.1.1.2 n c d 0) 0 f)) (0, g.2.2.2.2.2.2.2.2.2.2.2.1)).2 ∧ zTw g'.2.2.2.2.2.2.2.2.2.2.2.1) ∨
    (((ML ρ.2.1.1.2 n c d e).foldl (stp T (BaS T (fun c d => ML ρ.2.1.1.2 n c d 0) 0 f)) (0, g.2.2.2.2.2.2.2.2.2.2.2.1)).1 ≠ 0 ∧ ∃ g', L_V_layBase_3_71 zT0 cm tm v11 yf (q + (j + 1)) (Int32.ofNat e) g = some (Sum.inl (((ML ρ.2.1.1.2 n c d e).foldl (stp T (BaS T (fun c d => ML ρ.2.1.1.2 n c d 0) 0 f)) (0, g.2.2.2.2.2.2.2.2.2.2.2.1)).1, g')) ∧ SM 3 g g') := by
  intro j
  induction j with
  | zero =>
    intro e he g w hy hz q
    obtain ⟨w1, w2, w3, w4⟩ := w
    left
    rw [ML_end _ (by omega), L_V_layBase_3_71, w2, if_pos ((n_le (by omega) (by omega)).mpr (by omega))]
    exact ⟨rfl, _, g, rfl, SM_r _ _, rfl, hz⟩
  | succ j ih =>
    intro e he g w hy hz q
    obtain ⟨w1, w2, w3, w4⟩ := id w
    rw [show q + (j + 1 + 1) = (q + (j + 1)) + 1 by omega, L_V_layBase_3_71, w2, if_neg (fun g => absurd ((n_le (by omega) (by omega)).mp g) (by omega)), isIn_eq _ (by omega), ob, hm e (by omega), decide_eq_true (show e < n by omega), Bool.true_and, ML_s _ (show e < n by omega)]
    cases hmt : mtb ρ.2.1.1.2 n c d e with
    | false =>
      rw [zB_f, if_pos (show (0 : Int32) = 0 from rfl), if_neg (show ¬ (false = true) by decide), n_s]
      exact ih (e + 1) (by omega) g w hy hz q
    | true =>
      obtain ⟨y, o, o1, o2, o3, o4, o5⟩ := w4 e (by omega)
      have o1' : g.2.2.1 (Int32.ofNat e).toNatClampNeg = some y := by rw [n_cl (by omega)]; exact o1
      rw [zB_t, if_neg (show ¬ ((1 : Int32) = 0) by decide), if_pos (show true = true from rfl), if_pos ((n_zin (by omega)).mpr (by omega)), o1', zo_some, List.foldl_cons]
      obtain ⟨code, g1, a1, a2, a3, a4⟩ := lb4 w hf (show e < n by omega) hy o1
      rw [a1, ob]
      dsimp only
      have e1 : g1.2.2.1 (Int32.ofNat e).toNatClampNeg = some y := by rw [a3.1.2.2.1]; exact o1'
      have e2 : g1.2.2.2.2.2.2.2.2.2.2.2.1 = g.2.2.2.2.2.2.2.2.2.2.2.1 := a3.2.2.2.2 (by decide)
      by_cases h0 : code = 0
      · rw [if_pos h0, if_pos ((n_zin (by omega)).mpr (by omega)), e1, zo_some, o2, ob, o3, ob, e2]
        obtain ⟨a5, a6⟩ := a4 h0
        rw [a5]
        obtain ⟨k1, k2⟩ := mgs_ok (b := (BaS T (fun c d => ML ρ.2.1.1.2 n c d 0) 0 f e).2) (x := g.2.2.2.2.2.2.2.2.2.2.2.1) (y := T e) a6 hz o5
        obtain ⟨bf', k3⟩ := k1 g1.2.2.2.2.2.2.2.1
        rw [k3, ob]
        dsimp only
        have hst : stp T (BaS T (fun c d => ML ρ.2.1.1.2 n c d 0) 0 f) (0, g.2.2.2.2.2.2.2.2.2.2.2.1) e = mgs (BaS T (fun c d => ML ρ.2.1.1.2 n c d 0) 0 f e).2 g.2.2.2.2.2.2.2.2.2.2.2.1 (T e) := by
          unfold stp
          rw [if_pos rfl, if_pos (by rw [← a2]; exact h0)]
        rw [hst]
        generalize hR : mgs (BaS T (fun c d => ML ρ.2.1.1.2 n c d 0) 0 f e).2 g.2.2.2.2.2.2.2.2.2.2.2.1 (T e) = R at *
        by_cases h1 : R.1 = 0
        · rw [if_pos h1, n_s]
          have hS : SM 3 g (g1.1, g1.2.1, g1.2.2.1, g1.2.2.2.1, g1.2.2.2.2.1, g1.2.2.2.2.2.1, g1.2.2.2.2.2.2.1, bf', g1.2.2.2.2.2.2.2.2.1, g1.2.2.2.2.2.2.2.2.2.1, g1.2.2.2.2.2.2.2.2.2.2.1, R.2, (BaS T (fun c d => ML ρ.2.1.1.2 n c d 0) 0 f e).2) := ⟨a3.1, fun _ => a3.2.1 (by decide), fun _ => a3.2.2.1 (by decide), fun _ => a3.2.2.2.1 (by decide), fun h => absurd h (by decide)⟩
          have := ih (e + 1) (by omega) (g1.1, g1.2.1, g1.2.2.1, g1.2.2.2.1, g1.2.2.2.2.1, g1.2.2.2.2.2.1, g1.2.2.2.2.2.2.1, bf', g1.2.2.2.2.2.2.2.2.1, g1.2.2.2.2.2.2.2.2.2.1, g1.2.2.2.2.2.2.2.2.2.2.1, R.2, (BaS T (fun c d => ML ρ.2.1.1.2 n c d 0) 0 f e).2) (WS_SM hS w) (by rw [← hy]; exact congrFun a3.1.2.2.1 f) (k2 h1) q
          have hp : R = (0, R.2) := by rw [← h1]
          rw [← hp] at this
          rcases this with ⟨b1, x, g', b2, b3, b4, b5⟩ | ⟨b1, g', b2, b3⟩
          · left; exact ⟨b1, x, g', b2, SM_t hS b3, b4, b5⟩
          · right; exact ⟨b1, g', b2, SM_t hS b3⟩
        · rw [if_neg h1, fold_stuck _ _ _ _ h1]
          right
          exact ⟨h1, _, rfl, ⟨a3.1, fun _ => a3.2.1 (by decide), fun _ => a3.2.2.1 (by decide), fun _ => a3.2.2.2.1 (by decide), fun h => absurd h (by decide)⟩⟩
      · rw [if_neg h0, if_neg h0]
        have hst : stp T (BaS T (fun c d => ML ρ.2.1.1.2 n c d 0) 0 f) (0, g.2.2.2.2.2.2.2.2.2.2.2.1) e = BaS T (fun c d => ML ρ.2.1.1.2 n c d 0) 0 f e := by
          unfold stp
          rw [if_pos rfl, if_neg (by rw [← a2]; exact h0)]
        rw [hst, fold_stuck _ _ _ _ (by rw [← a2]; exact h0), ← a2]
        right
        exact ⟨h0, _, rfl, SM_d a3⟩
theorem lb3 {σ : VSt} (w : WS n σ ρ cm tm T) {c d yc yd : Nat} (hc : c < n) (hd : d < n) (ec : σ.2.2.1 c = some yc) (ed : σ.2.2.1 d = some yd) :
    ∃ code σ', f_V_layBase_3 zT0 cm tm σ yc yd = some (code, σ') ∧ code = (BaS T (fun c d => ML ρ.2.1.1.2 n c d 0) 1 c d).1 ∧ SM 3 σ σ' ∧ (code = 0 → σ'.2.2.2.2.2.2.2.2.2.2.2.1 = (BaS T (fun c d => ML ρ.2.1.1.2 n c d 0) 1 c d).2 ∧ zTw (BaS T (fun c d => ML ρ.2.1.1.2 n c d 0) 1 c d).2) := by
  obtain ⟨w1, w2, w3, w4⟩ := id w
  unfold f_V_layBase_3
  obtain ⟨m, m1, m2⟩ := meetsOf_eq (em := zT0) w1 w2 w3 hc hd ec ed
  rw [m1, ob, show (0 : Int32) = Int32.ofNat 0 from rfl, nextIn_eq w1 m2 (by omega), ob, BaS]
  cases hL : ML ρ.2.1.1.2 n c d 0 with
  | nil =>
    show ∃ code σ', Option.bind (f_V_commitAt zT0 cm tm σ (-1)) _ = some (code, σ') ∧ _
    rw [commitAt_n w1 w2 (m1_none w1), ob, zo_none, become_eq zT0_w, ob]
    exact ⟨_, _, rfl, rfl, ⟨⟨rfl, rfl, rfl, rfl, rfl, rfl⟩, fun _ => rfl, fun _ => rfl, fun _ => rfl, fun h => absurd h (by decide)⟩, fun _ => ⟨rfl, zT0_w⟩⟩
  | cons f rest =>
    have hf := ML_mem (show f ∈ ML ρ.2.1.1.2 n c d 0 by rw [hL]; exact List.mem_cons_self)
    obtain ⟨y, o, o1, o2, o3, o4, o5⟩ := w4 f hf.2.1
    show ∃ code σ', Option.bind (f_V_commitAt zT0 cm tm σ (Int32.ofNat f)) _ = some (code, σ') ∧ _
    rw [commitAt_y w1 w2 hf.2.1 o1, ob, zo_some, o2, ob, o3, ob, become_eq o5, ob, o4, n_s]
    dsimp only
    obtain ⟨q, hq⟩ := zfuel_lt (k := n - (f + 1)) (by omega)
    have hS : SM 3 σ (σ.1, σ.2.1, σ.2.2.1, σ.2.2.2.1, σ.2.2.2.2.1, σ.2.2.2.2.2.1, σ.2.2.2.2.2.2.1, σ.2.2.2.2.2.2.2.1, σ.2.2.2.2.2.2.2.2.1, σ.2.2.2.2.2.2.2.2.2.1, σ.2.2.2.2.2.2.2.2.2.2.1, T f, σ.2.2.2.2.2.2.2.2.2.2.2.2) := ⟨⟨rfl, rfl, rfl, rfl, rfl, rfl⟩, fun _ => rfl, fun _ => rfl, fun _ => rfl, fun h => absurd h (by decide)⟩
    rw [ML_rest hL, hq]
    rcases lbL3 (c := c) (d := d) hf.2.1 m2 (n - (f + 1)) (f + 1) (by omega) (σ.1, σ.2.1, σ.2.2.1, σ.2.2.2.1, σ.2.2.2.2.1, σ.2.2.2.2.2.1, σ.2.2.2.2.2.2.1, σ.2.2.2.2.2.2.2.1, σ.2.2.2.2.2.2.2.2.1, σ.2.2.2.2.2.2.2.2.2.1, σ.2.2.2.2.2.2.2.2.2.2.1, T f, σ.2.2.2.2.2.2.2.2.2.2.2.2) (WS_SM hS w) o1 o5 q with ⟨b1, x, g', b2, b3, b4, b5⟩ | ⟨b1, g', b2, b3⟩
    · rw [b2, ob]
      refine ⟨_, g', rfl, b1.symm, SM_t hS b3, fun _ => ⟨b4, ?_⟩⟩
      rw [b4] at b5
      exact b5
    · rw [b2, ob]
      exact ⟨_, g', rfl, rfl, SM_t hS b3, fun h => absurd h b1⟩
theorem lbL2 {v11 : Int64} {c d f yf : Nat} (hf : f < n) (hm : ∀ e < 60, bl v11 e = (decide (e < n) && mtb ρ.2.1.1.2 n c d e)) : ∀ (j e : Nat), e + j = n → ∀ (g : VSt), WS n g ρ cm tm T → g.2.2.1 f = some yf → zTw g.2.2.2.2.2.2.2.2.2.2.1 → ∀ q,
    (((ML ρ.2.1.1.2 n c d e).foldl (stp T (BaS T (fun c d => ML ρ.2.1.1.2 n c d 0) 1 f)) (0, g.2.2.2.2.2.2.2.2.2.2.1)).1 = 0 ∧ ∃ x g', L_V_layBase_2_71 zT0 cm tm v11 yf (q + (j + 1)) (Int32.ofNat e) g = some (Sum.inr (x, g')) ∧ SM 2 g g' ∧ g'.2.2.2.2.2.2.2.2.2.2.1 = ((ML ρ.2.1.1.2 n c d e).foldl (stp T (BaS T (fun c d => ML ρ.2.1.1.2 n c d 0) 1 f)) (0, g.2.2.2.2.2.2.2.2.2.2.1)).2 ∧ zTw g'.2.2.2.2.2.2.2.2.2.2.1) ∨
    (((ML ρ.2.1.1.2 n c d e).foldl (stp T (BaS T (fun c d => ML ρ.2.1.1.2 n c d 0) 1 f)) (0, g.2.2.2.2.2.2.2.2.2.2.1)).1 ≠ 0 ∧ ∃ g', L_V_layBase_2_71 zT0 cm tm v11 yf (q + (j + 1)) (Int32.ofNat e) g = some (Sum.inl (((ML ρ.2.1.1.2 n c d e).foldl (stp T (BaS T (fun c d => ML ρ.2.1.1.2 n c d 0) 1 f)) (0, g.2.2.2.2.2.2.2.2.2.2.1)).1, g')) ∧ SM 2 g g') := by
  intro j
  induction j with
  | zero =>
    intro e he g w hy hz q
    obtain ⟨w1, w2, w3, w4⟩ := w
    left
    rw [ML_end _ (by omega), L_V_layBase_2_71, w2, if_pos ((n_le (by omega) (by omega)).mpr (by omega))]
    exact ⟨rfl, _, g, rfl, SM_r _ _, rfl, hz⟩
  | succ j ih =>
    intro e he g w hy hz q
    obtain ⟨w1, w2, w3, w4⟩ := id w
    rw [show q + (j + 1 + 1) = (q + (j + 1)) + 1 by omega, L_V_layBase_2_71, w2, if_neg (fun g => absurd ((n_le (by omega) (by omega)).mp g) (by omega)), isIn_eq _ (by omega), ob, hm e (by omega), decide_eq_true (show e < n by omega), Bool.true_and, ML_s _ (show e < n by omega)]
    cases hmt : mtb ρ.2.1.1.2 n c d e with
    | false =>
      rw [zB_f, if_pos (show (0 : Int32) = 0 from rfl), if_neg (show ¬ (false = true) by decide), n_s]
      exact ih (e + 1) (by omega) g w hy hz q
    | true =>
      obtain ⟨y, o, o1, o2, o3, o4, o5⟩ := w4 e (by omega)
      have o1' : g.2.2.1 (Int32.ofNat e).toNatClampNeg = some y := by rw [n_cl (by omega)]; exact o1
      rw [zB_t, if_neg (show ¬ ((1 : Int32) = 0) by decide), if_pos (show true = true from rfl), if_pos ((n_zin (by omega)).mpr (by omega)), o1', zo_some, List.foldl_cons]
      obtain ⟨code, g1, a1, a2, a3, a4⟩ := lb3 w hf (show e < n by omega) hy o1
      rw [a1, ob]
      dsimp only
      have e1 : g1.2.2.1 (Int32.ofNat e).toNatClampNeg = some y := by rw [a3.1.2.2.1]; exact o1'
      have e2 : g1.2.2.2.2.2.2.2.2.2.2.1 = g.2.2.2.2.2.2.2.2.2.2.1 := a3.2.2.2.1 (by decide)
      by_cases h0 : code = 0
      · rw [if_pos h0, if_pos ((n_zin (by omega)).mpr (by omega)), e1, zo_some, o2, ob, o3, ob, e2]
        obtain ⟨a5, a6⟩ := a4 h0
        rw [a5]
        obtain ⟨k1, k2⟩ := mgs_ok (b := (BaS T (fun c d => ML ρ.2.1.1.2 n c d 0) 1 f e).2) (x := g.2.2.2.2.2.2.2.2.2.2.1) (y := T e) a6 hz o5
        obtain ⟨bf', k3⟩ := k1 g1.2.2.2.2.2.2.2.1
        rw [k3, ob]
        dsimp only
        have hst : stp T (BaS T (fun c d => ML ρ.2.1.1.2 n c d 0) 1 f) (0, g.2.2.2.2.2.2.2.2.2.2.1) e = mgs (BaS T (fun c d => ML ρ.2.1.1.2 n c d 0) 1 f e).2 g.2.2.2.2.2.2.2.2.2.2.1 (T e) := by
          unfold stp
          rw [if_pos rfl, if_pos (by rw [← a2]; exact h0)]
        rw [hst]
        generalize hR : mgs (BaS T (fun c d => ML ρ.2.1.1.2 n c d 0) 1 f e).2 g.2.2.2.2.2.2.2.2.2.2.1 (T e) = R at *
        by_cases h1 : R.1 = 0
        · rw [if_pos h1, n_s]
          have hS : SM 2 g (g1.1, g1.2.1, g1.2.2.1, g1.2.2.2.1, g1.2.2.2.2.1, g1.2.2.2.2.2.1, g1.2.2.2.2.2.2.1, bf', g1.2.2.2.2.2.2.2.2.1, g1.2.2.2.2.2.2.2.2.2.1, R.2, (BaS T (fun c d => ML ρ.2.1.1.2 n c d 0) 1 f e).2, g1.2.2.2.2.2.2.2.2.2.2.2.2) := ⟨a3.1, fun _ => a3.2.1 (by decide), fun _ => a3.2.2.1 (by decide), fun h => absurd h (by decide), fun h => absurd h (by decide)⟩
          have := ih (e + 1) (by omega) (g1.1, g1.2.1, g1.2.2.1, g1.2.2.2.1, g1.2.2.2.2.1, g1.2.2.2.2.2.1, g1.2.2.2.2.2.2.1, bf', g1.2.2.2.2.2.2.2.2.1, g1.2.2.2.2.2.2.2.2.2.1, R.2, (BaS T (fun c d => ML ρ.2.1.1.2 n c d 0) 1 f e).2, g1.2.2.2.2.2.2.2.2.2.2.2.2) (WS_SM hS w) (by rw [← hy]; exact congrFun a3.1.2.2.1 f) (k2 h1) q
          have hp : R = (0, R.2) := by rw [← h1]
          rw [← hp] at this
          rcases this with ⟨b1, x, g', b2, b3, b4, b5⟩ | ⟨b1, g', b2, b3⟩
          · left; exact ⟨b1, x, g', b2, SM_t hS b3, b4, b5⟩
          · right; exact ⟨b1, g', b2, SM_t hS b3⟩
        · rw [if_neg h1, fold_stuck _ _ _ _ h1]
          right
          exact ⟨h1, _, rfl, ⟨a3.1, fun _ => a3.2.1 (by decide), fun _ => a3.2.2.1 (by decide), fun h => absurd h (by decide), fun h => absurd h (by decide)⟩⟩
      · rw [if_neg h0, if_neg h0]
        have hst : stp T (BaS T (fun c d => ML ρ.2.1.1.2 n c d 0) 1 f) (0, g.2.2.2.2.2.2.2.2.2.2.1) e = BaS T (fun c d => ML ρ.2.1.1.2 n c d 0) 1 f e := by
          unfold stp
          rw [if_pos rfl, if_neg (by rw [← a2]; exact h0)]
        rw [hst, fold_stuck _ _ _ _ (by rw [← a2]; exact h0), ← a2]
        right
        exact ⟨h0, _, rfl, SM_d a3⟩
theorem lb2 {σ : VSt} (w : WS n σ ρ cm tm T) {c d yc yd : Nat} (hc : c < n) (hd : d < n) (ec : σ.2.2.1 c = some yc) (ed : σ.2.2.1 d = some yd) :
    ∃ code σ', f_V_layBase_2 zT0 cm tm σ yc yd = some (code, σ') ∧ code = (BaS T (fun c d => ML ρ.2.1.1.2 n c d 0) 2 c d).1 ∧ SM 2 σ σ' ∧ (code = 0 → σ'.2.2.2.2.2.2.2.2.2.2.1 = (BaS T (fun c d => ML ρ.2.1.1.2 n c d 0) 2 c d).2 ∧ zTw (BaS T (fun c d => ML ρ.2.1.1.2 n c d 0) 2 c d).2) := by
  obtain ⟨w1, w2, w3, w4⟩ := id w
  unfold f_V_layBase_2
  obtain ⟨m, m1, m2⟩ := meetsOf_eq (em := zT0) w1 w2 w3 hc hd ec ed
  rw [m1, ob, show (0 : Int32) = Int32.ofNat 0 from rfl, nextIn_eq w1 m2 (by omega), ob, BaS]
  cases hL : ML ρ.2.1.1.2 n c d 0 with
  | nil =>
    show ∃ code σ', Option.bind (f_V_commitAt zT0 cm tm σ (-1)) _ = some (code, σ') ∧ _
    rw [commitAt_n w1 w2 (m1_none w1), ob, zo_none, become_eq zT0_w, ob]
    exact ⟨_, _, rfl, rfl, ⟨⟨rfl, rfl, rfl, rfl, rfl, rfl⟩, fun _ => rfl, fun _ => rfl, fun h => absurd h (by decide), fun h => absurd h (by decide)⟩, fun _ => ⟨rfl, zT0_w⟩⟩
  | cons f rest =>
    have hf := ML_mem (show f ∈ ML ρ.2.1.1.2 n c d 0 by rw [hL]; exact List.mem_cons_self)
    obtain ⟨y, o, o1, o2, o3, o4, o5⟩ := w4 f hf.2.1
    show ∃ code σ', Option.bind (f_V_commitAt zT0 cm tm σ (Int32.ofNat f)) _ = some (code, σ') ∧ _
    rw [commitAt_y w1 w2 hf.2.1 o1, ob, zo_some, o2, ob, o3, ob, become_eq o5, ob, o4, n_s]
    dsimp only
    obtain ⟨q, hq⟩ := zfuel_lt (k := n - (f + 1)) (by omega)
    have hS : SM 2 σ (σ.1, σ.2.1, σ.2.2.1, σ.2.2.2.1, σ.2.2.2.2.1, σ.2.2.2.2.2.1, σ.2.2.2.2.2.2.1, σ.2.2.2.2.2.2.2.1, σ.2.2.2.2.2.2.2.2.1, σ.2.2.2.2.2.2.2.2.2.1, T f, σ.2.2.2.2.2.2.2.2.2.2.2.1, σ.2.2.2.2.2.2.2.2.2.2.2.2) := ⟨⟨rfl, rfl, rfl, rfl, rfl, rfl⟩, fun _ => rfl, fun _ => rfl, fun h => absurd h (by decide), fun h => absurd h (by decide)⟩
    rw [ML_rest hL, hq]
    rcases lbL2 (c := c) (d := d) hf.2.1 m2 (n - (f + 1)) (f + 1) (by omega) (σ.1, σ.2.1, σ.2.2.1, σ.2.2.2.1, σ.2.2.2.2.1, σ.2.2.2.2.2.1, σ.2.2.2.2.2.2.1, σ.2.2.2.2.2.2.2.1, σ.2.2.2.2.2.2.2.2.1, σ.2.2.2.2.2.2.2.2.2.1, T f, σ.2.2.2.2.2.2.2.2.2.2.2.1, σ.2.2.2.2.2.2.2.2.2.2.2.2) (WS_SM hS w) o1 o5 q with ⟨b1, x, g', b2, b3, b4, b5⟩ | ⟨b1, g', b2, b3⟩
    · rw [b2, ob]
      refine ⟨_, g', rfl, b1.symm, SM_t hS b3, fun _ => ⟨b4, ?_⟩⟩
      rw [b4] at b5
      exact b5
    · rw [b2, ob]
      exact ⟨_, g', rfl, rfl, SM_t hS b3, fun h => absurd h b1⟩
theorem lbL1 {v11 : Int64} {c d f yf : Nat} (hf : f < n) (hm : ∀ e < 60, bl v11 e = (decide (e < n) && mtb ρ.2.1.1.2 n c d e)) : ∀ (j e : Nat), e + j = n → ∀ (g : VSt), WS n g ρ cm tm T → g.2.2.1 f = some yf → zTw g.2.2.2.2.2.2.2.2.2.1 → ∀ q,
    (((ML ρ.2.1.1.2 n c d e).foldl (stp T (BaS T (fun c d => ML ρ.2.1.1.2 n c d 0) 2 f)) (0, g.2.2.2.2.2.2.2.2.2.1)).1 = 0 ∧ ∃ x g', L_V_layBase_1_71 zT0 cm tm v11 yf (q + (j + 1)) (Int32.ofNat e) g = some (Sum.inr (x, g')) ∧ SM 1 g g' ∧ g'.2.2.2.2.2.2.2.2.2.1 = ((ML ρ.2.1.1.2 n c d e).foldl (stp T (BaS T (fun c d => ML ρ.2.1.1.2 n c d 0) 2 f)) (0, g.2.2.2.2.2.2.2.2.2.1)).2 ∧ zTw g'.2.2.2.2.2.2.2.2.2.1) ∨
    (((ML ρ.2.1.1.2 n c d e).foldl (stp T (BaS T (fun c d => ML ρ.2.1.1.2 n c d 0) 2 f)) (0, g.2.2.2.2.2.2.2.2.2.1)).1 ≠ 0 ∧ ∃ g', L_V_layBase_1_71 zT0 cm tm v11 yf (q + (j + 1)) (Int32.ofNat e) g = some (Sum.inl (((ML ρ.2.1.1.2 n c d e).foldl (stp T (BaS T (fun c d => ML ρ.2.1.1.2 n c d 0) 2 f)) (0, g.2.2.2.2.2.2.2.2.2.1)).1, g')) ∧ SM 1 g g') := by
  intro j
  induction j with
  | zero =>
    intro e he g w hy hz q
    obtain ⟨w1, w2, w3, w4⟩ := w
    left
    rw [ML_end _ (by omega), L_V_layBase_1_71, w2, if_pos ((n_le (by omega) (by omega)).mpr (by omega))]
    exact ⟨rfl, _, g, rfl, SM_r _ _, rfl, hz⟩
  | succ j ih =>
    intro e he g w hy hz q
    obtain ⟨w1, w2, w3, w4⟩ := id w
    rw [show q + (j + 1 + 1) = (q + (j + 1)) + 1 by omega, L_V_layBase_1_71, w2, if_neg (fun g => absurd ((n_le (by omega) (by omega)).mp g) (by omega)), isIn_eq _ (by omega), ob, hm e (by omega), decide_eq_true (show e < n by omega), Bool.true_and, ML_s _ (show e < n by omega)]
    cases hmt : mtb ρ.2.1.1.2 n c d e with
    | false =>
      rw [zB_f, if_pos (show (0 : Int32) = 0 from rfl), if_neg (show ¬ (false = true) by decide), n_s]
      exact ih (e + 1) (by omega) g w hy hz q
    | true =>
      obtain ⟨y, o, o1, o2, o3, o4, o5⟩ := w4 e (by omega)
      have o1' : g.2.2.1 (Int32.ofNat e).toNatClampNeg = some y := by rw [n_cl (by omega)]; exact o1
      rw [zB_t, if_neg (show ¬ ((1 : Int32) = 0) by decide), if_pos (show true = true from rfl), if_pos ((n_zin (by omega)).mpr (by omega)), o1', zo_some, List.foldl_cons]
      obtain ⟨code, g1, a1, a2, a3, a4⟩ := lb2 w hf (show e < n by omega) hy o1
      rw [a1, ob]
      dsimp only
      have e1 : g1.2.2.1 (Int32.ofNat e).toNatClampNeg = some y := by rw [a3.1.2.2.1]; exact o1'
      have e2 : g1.2.2.2.2.2.2.2.2.2.1 = g.2.2.2.2.2.2.2.2.2.1 := a3.2.2.1 (by decide)
      by_cases h0 : code = 0
      · rw [if_pos h0, if_pos ((n_zin (by omega)).mpr (by omega)), e1, zo_some, o2, ob, o3, ob, e2]
        obtain ⟨a5, a6⟩ := a4 h0
        rw [a5]
        obtain ⟨k1, k2⟩ := mgs_ok (b := (BaS T (fun c d => ML ρ.2.1.1.2 n c d 0) 2 f e).2) (x := g.2.2.2.2.2.2.2.2.2.1) (y := T e) a6 hz o5
        obtain ⟨bf', k3⟩ := k1 g1.2.2.2.2.2.2.2.1
        rw [k3, ob]
        dsimp only
        have hst : stp T (BaS T (fun c d => ML ρ.2.1.1.2 n c d 0) 2 f) (0, g.2.2.2.2.2.2.2.2.2.1) e = mgs (BaS T (fun c d => ML ρ.2.1.1.2 n c d 0) 2 f e).2 g.2.2.2.2.2.2.2.2.2.1 (T e) := by
          unfold stp
          rw [if_pos rfl, if_pos (by rw [← a2]; exact h0)]
        rw [hst]
        generalize hR : mgs (BaS T (fun c d => ML ρ.2.1.1.2 n c d 0) 2 f e).2 g.2.2.2.2.2.2.2.2.2.1 (T e) = R at *
        by_cases h1 : R.1 = 0
        · rw [if_pos h1, n_s]
          have hS : SM 1 g (g1.1, g1.2.1, g1.2.2.1, g1.2.2.2.1, g1.2.2.2.2.1, g1.2.2.2.2.2.1, g1.2.2.2.2.2.2.1, bf', g1.2.2.2.2.2.2.2.2.1, R.2, (BaS T (fun c d => ML ρ.2.1.1.2 n c d 0) 2 f e).2, g1.2.2.2.2.2.2.2.2.2.2.2.1, g1.2.2.2.2.2.2.2.2.2.2.2.2) := ⟨a3.1, fun _ => a3.2.1 (by decide), fun h => absurd h (by decide), fun h => absurd h (by decide), fun h => absurd h (by decide)⟩
          have := ih (e + 1) (by omega) (g1.1, g1.2.1, g1.2.2.1, g1.2.2.2.1, g1.2.2.2.2.1, g1.2.2.2.2.2.1, g1.2.2.2.2.2.2.1, bf', g1.2.2.2.2.2.2.2.2.1, R.2, (BaS T (fun c d => ML ρ.2.1.1.2 n c d 0) 2 f e).2, g1.2.2.2.2.2.2.2.2.2.2.2.1, g1.2.2.2.2.2.2.2.2.2.2.2.2) (WS_SM hS w) (by rw [← hy]; exact congrFun a3.1.2.2.1 f) (k2 h1) q
          have hp : R = (0, R.2) := by rw [← h1]
          rw [← hp] at this
          rcases this with ⟨b1, x, g', b2, b3, b4, b5⟩ | ⟨b1, g', b2, b3⟩
          · left; exact ⟨b1, x, g', b2, SM_t hS b3, b4, b5⟩
          · right; exact ⟨b1, g', b2, SM_t hS b3⟩
        · rw [if_neg h1, fold_stuck _ _ _ _ h1]
          right
          exact ⟨h1, _, rfl, ⟨a3.1, fun _ => a3.2.1 (by decide), fun h => absurd h (by decide), fun h => absurd h (by decide), fun h => absurd h (by decide)⟩⟩
      · rw [if_neg h0, if_neg h0]
        have hst : stp T (BaS T (fun c d => ML ρ.2.1.1.2 n c d 0) 2 f) (0, g.2.2.2.2.2.2.2.2.2.1) e = BaS T (fun c d => ML ρ.2.1.1.2 n c d 0) 2 f e := by
          unfold stp
          rw [if_pos rfl, if_neg (by rw [← a2]; exact h0)]
        rw [hst, fold_stuck _ _ _ _ (by rw [← a2]; exact h0), ← a2]
        right
        exact ⟨h0, _, rfl, SM_d a3⟩
theorem lb1 {σ : VSt} (w : WS n σ ρ cm tm T) {c d yc yd : Nat} (hc : c < n) (hd : d < n) (ec : σ.2.2.1 c = some yc) (ed : σ.2.2.1 d = some yd) :
    ∃ code σ', f_V_layBase_1 zT0 cm tm σ yc yd = some (code, σ') ∧ code = (BaS T (fun c d => ML ρ.2.1.1.2 n c d 0) 3 c d).1 ∧ SM 1 σ σ' ∧ (code = 0 → σ'.2.2.2.2.2.2.2.2.2.1 = (BaS T (fun c d => ML ρ.2.1.1.2 n c d 0) 3 c d).2 ∧ zTw (BaS T (fun c d => ML ρ.2.1.1.2 n c d 0) 3 c d).2) := by
  obtain ⟨w1, w2, w3, w4⟩ := id w
  unfold f_V_layBase_1
  obtain ⟨m, m1, m2⟩ := meetsOf_eq (em := zT0) w1 w2 w3 hc hd ec ed
  rw [m1, ob, show (0 : Int32) = Int32.ofNat 0 from rfl, nextIn_eq w1 m2 (by omega), ob, BaS]
  cases hL : ML ρ.2.1.1.2 n c d 0 with
  | nil =>
    show ∃ code σ', Option.bind (f_V_commitAt zT0 cm tm σ (-1)) _ = some (code, σ') ∧ _
    rw [commitAt_n w1 w2 (m1_none w1), ob, zo_none, become_eq zT0_w, ob]
    exact ⟨_, _, rfl, rfl, ⟨⟨rfl, rfl, rfl, rfl, rfl, rfl⟩, fun _ => rfl, fun h => absurd h (by decide), fun h => absurd h (by decide), fun h => absurd h (by decide)⟩, fun _ => ⟨rfl, zT0_w⟩⟩
  | cons f rest =>
    have hf := ML_mem (show f ∈ ML ρ.2.1.1.2 n c d 0 by rw [hL]; exact List.mem_cons_self)
    obtain ⟨y, o, o1, o2, o3, o4, o5⟩ := w4 f hf.2.1
    show ∃ code σ', Option.bind (f_V_commitAt zT0 cm tm σ (Int32.ofNat f)) _ = some (code, σ') ∧ _
    rw [commitAt_y w1 w2 hf.2.1 o1, ob, zo_some, o2, ob, o3, ob, become_eq o5, ob, o4, n_s]
    dsimp only
    obtain ⟨q, hq⟩ := zfuel_lt (k := n - (f + 1)) (by omega)
    have hS : SM 1 σ (σ.1, σ.2.1, σ.2.2.1, σ.2.2.2.1, σ.2.2.2.2.1, σ.2.2.2.2.2.1, σ.2.2.2.2.2.2.1, σ.2.2.2.2.2.2.2.1, σ.2.2.2.2.2.2.2.2.1, T f, σ.2.2.2.2.2.2.2.2.2.2.1, σ.2.2.2.2.2.2.2.2.2.2.2.1, σ.2.2.2.2.2.2.2.2.2.2.2.2) := ⟨⟨rfl, rfl, rfl, rfl, rfl, rfl⟩, fun _ => rfl, fun h => absurd h (by decide), fun h => absurd h (by decide), fun h => absurd h (by decide)⟩
    rw [ML_rest hL, hq]
    rcases lbL1 (c := c) (d := d) hf.2.1 m2 (n - (f + 1)) (f + 1) (by omega) (σ.1, σ.2.1, σ.2.2.1, σ.2.2.2.1, σ.2.2.2.2.1, σ.2.2.2.2.2.1, σ.2.2.2.2.2.2.1, σ.2.2.2.2.2.2.2.1, σ.2.2.2.2.2.2.2.2.1, T f, σ.2.2.2.2.2.2.2.2.2.2.1, σ.2.2.2.2.2.2.2.2.2.2.2.1, σ.2.2.2.2.2.2.2.2.2.2.2.2) (WS_SM hS w) o1 o5 q with ⟨b1, x, g', b2, b3, b4, b5⟩ | ⟨b1, g', b2, b3⟩
    · rw [b2, ob]
      refine ⟨_, g', rfl, b1.symm, SM_t hS b3, fun _ => ⟨b4, ?_⟩⟩
      rw [b4] at b5
      exact b5
    · rw [b2, ob]
      exact ⟨_, g', rfl, rfl, SM_t hS b3, fun h => absurd h b1⟩
theorem lbL0 {v11 : Int64} {c d f yf : Nat} (hf : f < n) (hm : ∀ e < 60, bl v11 e = (decide (e < n) && mtb ρ.2.1.1.2 n c d e)) : ∀ (j e : Nat), e + j = n → ∀ (g : VSt), WS n g ρ cm tm T → g.2.2.1 f = some yf → zTw g.2.2.2.2.2.2.2.2.1 → ∀ q,
    (((ML ρ.2.1.1.2 n c d e).foldl (stp T (BaS T (fun c d => ML ρ.2.1.1.2 n c d 0) 3 f)) (0, g.2.2.2.2.2.2.2.2.1)).1 = 0 ∧ ∃ x g', L_V_layBase_0_71 zT0 cm tm v11 yf (q + (j + 1)) (Int32.ofNat e) g = some (Sum.inr (x, g')) ∧ SM 0 g g' ∧ g'.2.2.2.2.2.2.2.2.1 = ((ML ρ.2.1.1.2 n c d e).foldl (stp T (BaS T (fun c d => ML ρ.2.1.1.2 n c d 0) 3 f)) (0, g.2.2.2.2.2.2.2.2.1)).2 ∧ zTw g'.2.2.2.2.2.2.2.2.1) ∨
    (((ML ρ.2.1.1.2 n c d e).foldl (stp T (BaS T (fun c d => ML ρ.2.1.1.2 n c d 0) 3 f)) (0, g.2.2.2.2.2.2.2.2.1)).1 ≠ 0 ∧ ∃ g', L_V_layBase_0_71 zT0 cm tm v11 yf (q + (j + 1)) (Int32.ofNat e) g = some (Sum.inl (((ML ρ.2.1.1.2 n c d e).foldl (stp T (BaS T (fun c d => ML ρ.2.1.1.2 n c d 0) 3 f)) (0, g.2.2.2.2.2.2.2.2.1)).1, g')) ∧ SM 0 g g') := by
  intro j
  induction j with
  | zero =>
    intro e he g w hy hz q
    obtain ⟨w1, w2, w3, w4⟩ := w
    left
    rw [ML_end _ (by omega), L_V_layBase_0_71, w2, if_pos ((n_le (by omega) (by omega)).mpr (by omega))]
    exact ⟨rfl, _, g, rfl, SM_r _ _, rfl, hz⟩
  | succ j ih =>
    intro e he g w hy hz q
    obtain ⟨w1, w2, w3, w4⟩ := id w
    rw [show q + (j + 1 + 1) = (q + (j + 1)) + 1 by omega, L_V_layBase_0_71, w2, if_neg (fun g => absurd ((n_le (by omega) (by omega)).mp g) (by omega)), isIn_eq _ (by omega), ob, hm e (by omega), decide_eq_true (show e < n by omega), Bool.true_and, ML_s _ (show e < n by omega)]
    cases hmt : mtb ρ.2.1.1.2 n c d e with
    | false =>
      rw [zB_f, if_pos (show (0 : Int32) = 0 from rfl), if_neg (show ¬ (false = true) by decide), n_s]
      exact ih (e + 1) (by omega) g w hy hz q
    | true =>
      obtain ⟨y, o, o1, o2, o3, o4, o5⟩ := w4 e (by omega)
      have o1' : g.2.2.1 (Int32.ofNat e).toNatClampNeg = some y := by rw [n_cl (by omega)]; exact o1
      rw [zB_t, if_neg (show ¬ ((1 : Int32) = 0) by decide), if_pos (show true = true from rfl), if_pos ((n_zin (by omega)).mpr (by omega)), o1', zo_some, List.foldl_cons]
      obtain ⟨code, g1, a1, a2, a3, a4⟩ := lb1 w hf (show e < n by omega) hy o1
      rw [a1, ob]
      dsimp only
      have e1 : g1.2.2.1 (Int32.ofNat e).toNatClampNeg = some y := by rw [a3.1.2.2.1]; exact o1'
      have e2 : g1.2.2.2.2.2.2.2.2.1 = g.2.2.2.2.2.2.2.2.1 := a3.2.1 (by decide)
      by_cases h0 : code = 0
      · rw [if_pos h0, if_pos ((n_zin (by omega)).mpr (by omega)), e1, zo_some, o2, ob, o3, ob, e2]
        obtain ⟨a5, a6⟩ := a4 h0
        rw [a5]
        obtain ⟨k1, k2⟩ := mgs_ok (b := (BaS T (fun c d => ML ρ.2.1.1.2 n c d 0) 3 f e).2) (x := g.2.2.2.2.2.2.2.2.1) (y := T e) a6 hz o5
        obtain ⟨bf', k3⟩ := k1 g1.2.2.2.2.2.2.2.1
        rw [k3, ob]
        dsimp only
        have hst : stp T (BaS T (fun c d => ML ρ.2.1.1.2 n c d 0) 3 f) (0, g.2.2.2.2.2.2.2.2.1) e = mgs (BaS T (fun c d => ML ρ.2.1.1.2 n c d 0) 3 f e).2 g.2.2.2.2.2.2.2.2.1 (T e) := by
          unfold stp
          rw [if_pos rfl, if_pos (by rw [← a2]; exact h0)]
        rw [hst]
        generalize hR : mgs (BaS T (fun c d => ML ρ.2.1.1.2 n c d 0) 3 f e).2 g.2.2.2.2.2.2.2.2.1 (T e) = R at *
        by_cases h1 : R.1 = 0
        · rw [if_pos h1, n_s]
          have hS : SM 0 g (g1.1, g1.2.1, g1.2.2.1, g1.2.2.2.1, g1.2.2.2.2.1, g1.2.2.2.2.2.1, g1.2.2.2.2.2.2.1, bf', R.2, (BaS T (fun c d => ML ρ.2.1.1.2 n c d 0) 3 f e).2, g1.2.2.2.2.2.2.2.2.2.2.1, g1.2.2.2.2.2.2.2.2.2.2.2.1, g1.2.2.2.2.2.2.2.2.2.2.2.2) := ⟨a3.1, fun h => absurd h (by decide), fun h => absurd h (by decide), fun h => absurd h (by decide), fun h => absurd h (by decide)⟩
          have := ih (e + 1) (by omega) (g1.1, g1.2.1, g1.2.2.1, g1.2.2.2.1, g1.2.2.2.2.1, g1.2.2.2.2.2.1, g1.2.2.2.2.2.2.1, bf', R.2, (BaS T (fun c d => ML ρ.2.1.1.2 n c d 0) 3 f e).2, g1.2.2.2.2.2.2.2.2.2.2.1, g1.2.2.2.2.2.2.2.2.2.2.2.1, g1.2.2.2.2.2.2.2.2.2.2.2.2) (WS_SM hS w) (by rw [← hy]; exact congrFun a3.1.2.2.1 f) (k2 h1) q
          have hp : R = (0, R.2) := by rw [← h1]
          rw [← hp] at this
          rcases this with ⟨b1, x, g', b2, b3, b4, b5⟩ | ⟨b1, g', b2, b3⟩
          · left; exact ⟨b1, x, g', b2, SM_t hS b3, b4, b5⟩
          · right; exact ⟨b1, g', b2, SM_t hS b3⟩
        · rw [if_neg h1, fold_stuck _ _ _ _ h1]
          right
          exact ⟨h1, _, rfl, ⟨a3.1, fun h => absurd h (by decide), fun h => absurd h (by decide), fun h => absurd h (by decide), fun h => absurd h (by decide)⟩⟩
      · rw [if_neg h0, if_neg h0]
        have hst : stp T (BaS T (fun c d => ML ρ.2.1.1.2 n c d 0) 3 f) (0, g.2.2.2.2.2.2.2.2.1) e = BaS T (fun c d => ML ρ.2.1.1.2 n c d 0) 3 f e := by
          unfold stp
          rw [if_pos rfl, if_neg (by rw [← a2]; exact h0)]
        rw [hst, fold_stuck _ _ _ _ (by rw [← a2]; exact h0), ← a2]
        right
        exact ⟨h0, _, rfl, SM_d a3⟩
theorem lb0 {σ : VSt} (w : WS n σ ρ cm tm T) {c d yc yd : Nat} (hc : c < n) (hd : d < n) (ec : σ.2.2.1 c = some yc) (ed : σ.2.2.1 d = some yd) :
    ∃ code σ', f_V_layBase_0 zT0 cm tm σ yc yd = some (code, σ') ∧ code = (BaS T (fun c d => ML ρ.2.1.1.2 n c d 0) 4 c d).1 ∧ SM 0 σ σ' ∧ (code = 0 → σ'.2.2.2.2.2.2.2.2.1 = (BaS T (fun c d => ML ρ.2.1.1.2 n c d 0) 4 c d).2 ∧ zTw (BaS T (fun c d => ML ρ.2.1.1.2 n c d 0) 4 c d).2) := by
  obtain ⟨w1, w2, w3, w4⟩ := id w
  unfold f_V_layBase_0
  obtain ⟨m, m1, m2⟩ := meetsOf_eq (em := zT0) w1 w2 w3 hc hd ec ed
  rw [m1, ob, show (0 : Int32) = Int32.ofNat 0 from rfl, nextIn_eq w1 m2 (by omega), ob, BaS]
  cases hL : ML ρ.2.1.1.2 n c d 0 with
  | nil =>
    show ∃ code σ', Option.bind (f_V_commitAt zT0 cm tm σ (-1)) _ = some (code, σ') ∧ _
    rw [commitAt_n w1 w2 (m1_none w1), ob, zo_none, become_eq zT0_w, ob]
    exact ⟨_, _, rfl, rfl, ⟨⟨rfl, rfl, rfl, rfl, rfl, rfl⟩, fun h => absurd h (by decide), fun h => absurd h (by decide), fun h => absurd h (by decide), fun h => absurd h (by decide)⟩, fun _ => ⟨rfl, zT0_w⟩⟩
  | cons f rest =>
    have hf := ML_mem (show f ∈ ML ρ.2.1.1.2 n c d 0 by rw [hL]; exact List.mem_cons_self)
    obtain ⟨y, o, o1, o2, o3, o4, o5⟩ := w4 f hf.2.1
    show ∃ code σ', Option.bind (f_V_commitAt zT0 cm tm σ (Int32.ofNat f)) _ = some (code, σ') ∧ _
    rw [commitAt_y w1 w2 hf.2.1 o1, ob, zo_some, o2, ob, o3, ob, become_eq o5, ob, o4, n_s]
    dsimp only
    obtain ⟨q, hq⟩ := zfuel_lt (k := n - (f + 1)) (by omega)
    have hS : SM 0 σ (σ.1, σ.2.1, σ.2.2.1, σ.2.2.2.1, σ.2.2.2.2.1, σ.2.2.2.2.2.1, σ.2.2.2.2.2.2.1, σ.2.2.2.2.2.2.2.1, T f, σ.2.2.2.2.2.2.2.2.2.1, σ.2.2.2.2.2.2.2.2.2.2.1, σ.2.2.2.2.2.2.2.2.2.2.2.1, σ.2.2.2.2.2.2.2.2.2.2.2.2) := ⟨⟨rfl, rfl, rfl, rfl, rfl, rfl⟩, fun h => absurd h (by decide), fun h => absurd h (by decide), fun h => absurd h (by decide), fun h => absurd h (by decide)⟩
    rw [ML_rest hL, hq]
    rcases lbL0 (c := c) (d := d) hf.2.1 m2 (n - (f + 1)) (f + 1) (by omega) (σ.1, σ.2.1, σ.2.2.1, σ.2.2.2.1, σ.2.2.2.2.1, σ.2.2.2.2.2.1, σ.2.2.2.2.2.2.1, σ.2.2.2.2.2.2.2.1, T f, σ.2.2.2.2.2.2.2.2.2.1, σ.2.2.2.2.2.2.2.2.2.2.1, σ.2.2.2.2.2.2.2.2.2.2.2.1, σ.2.2.2.2.2.2.2.2.2.2.2.2) (WS_SM hS w) o1 o5 q with ⟨b1, x, g', b2, b3, b4, b5⟩ | ⟨b1, g', b2, b3⟩
    · rw [b2, ob]
      refine ⟨_, g', rfl, b1.symm, SM_t hS b3, fun _ => ⟨b4, ?_⟩⟩
      rw [b4] at b5
      exact b5
    · rw [b2, ob]
      exact ⟨_, g', rfl, rfl, SM_t hS b3, fun h => absurd h b1⟩
end

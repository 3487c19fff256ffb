-- MERGING QUEUES: the whole
section
variable {lb lx ly : List Nat} {ρ : RSt} {tb tx ty : Nat}
theorem r9 (h : QS ρ tb tx ty lb lx ly) : ∀ (j i : Nat), i + j = 16 → ∀ (a : Int32), (∀ u < 32, bi a u = (decide (u < i) && mM lb lx ly u)) → ∀ n, ∃ w m, L_R_mergeQueues_9 ρ (Int32.ofNat tb) (Int32.ofNat tx) (Int32.ofNat ty) (n + (j + 1)) (Int32.ofNat i) a (Int32.ofNat (ct (mM lb lx ly) i)) = some (w, m, Int32.ofNat (ct (mM lb lx ly) 16)) ∧ ∀ u < 32, bi m u = (decide (u < 16) && mM lb lx ly u) := by
  intro j
  induction j with
  | zero =>
    intro i hi a ha n
    have e : i = 16 := by omega
    subst e
    rw [L_R_mergeQueues_9, if_pos ((le_c 16 (by decide) (by omega)).mpr (by omega))]
    exact ⟨_, _, rfl, ha⟩
  | succ j ih =>
    intro i hi a ha n
    rw [show n + (j + 1 + 1) = (n + (j + 1)) + 1 by omega, L_R_mergeQueues_9, if_neg (fun g => absurd ((le_c 16 (by decide) (by omega)).mp g) (by omega))]
    rw [member_eq h.1.1 h.1.2.1 h.1.2.2 h.2.1.1 h.2.1.2.1 h.2.1.2.2 h.2.2.1 h.2.2.2.1 h.2.2.2.2 (by omega), ob]
    have hc : ct (mM lb lx ly) (i + 1) = ct (mM lb lx ly) i + if mM lb lx ly i then 1 else 0 := rfl
    rw [show mg (decide (i ∈ lb)) (decide (i ∈ lx)) (decide (i ∈ ly)) = mM lb lx ly i from rfl]
    by_cases hm : mM lb lx ly i = true
    · rw [hm] at hc ⊢
      rw [zB_t, if_neg (by decide), J_R_mergeQueues_41, if_neg (by decide), n_s, n_s]
      have := ih (i + 1) (by omega) (a ||| (1 <<< (Int32.ofNat i &&& 31))) (fun u hu => by
        rw [bi_or, bi_s1 (by omega) hu, ha u hu]
        by_cases e1 : u = i
        · subst e1; simp [hm]
        · by_cases e2 : u < i
          · simp [e1, e2, show u < i + 1 by omega]
          · simp [e1, e2, show ¬ (u < i + 1) by omega]) n
      rw [hc] at this
      exact this
    · rw [Bool.not_eq_true] at hm
      rw [hm] at hc ⊢
      rw [zB_f, if_pos rfl, J_R_mergeQueues_41, if_pos rfl, n_s]
      have := ih (i + 1) (by omega) a (fun u hu => by
        rw [ha u hu]
        by_cases e1 : u = i
        · subst e1; simp [hm]
        · by_cases e2 : u < i
          · simp [e2, show u < i + 1 by omega]
          · simp [e2, show ¬ (u < i + 1) by omega]) n
      rw [hc] at this
      exact this
theorem r9_eq (h : QS ρ tb tx ty lb lx ly) : ∃ w m, L_R_mergeQueues_9 ρ (Int32.ofNat tb) (Int32.ofNat tx) (Int32.ofNat ty) zfuel 0 0 0 = some (w, m, Int32.ofNat (ct (mM lb lx ly) 16)) ∧ ∀ u < 32, bi m u = (decide (u < 16) && mM lb lx ly u) := by
  obtain ⟨n, hn⟩ := zfuel_lt (k := 16) (by omega)
  rw [hn]
  exact r9 h 16 0 rfl 0 (fun u hu => by simp [bi_0]) n
theorem mM_16 (h1 : ql lb) (h2 : ql lx) (h3 : ql ly) {u : Nat} (hu : 16 ≤ u) : mM lb lx ly u = false := by
  have a1 : ¬ u ∈ lb := fun g => by have := h1.2 u g; omega
  have a2 : ¬ u ∈ lx := fun g => by have := h2.2 u g; omega
  have a3 : ¬ u ∈ ly := fun g => by have := h3.2 u g; omega
  simp [mM, mg, a1, a2, a3]
theorem c39 (h1 : ql lb) (h2 : ql lx) (h3 : ql ly) {v13 : Int32} (hv : ∀ u < 32, bi v13 u = (decide (u < 16) && mM lb lx ly u)) : ∀ (j i : Nat), i + j = 16 → ∀ (g : Nat → Int32), (∀ e < i, mM lb lx ly e = true → ∀ u < 32, bi (g e) u = mG lb lx ly u e) → ∀ n, ∃ w, L_M_mergedQueue_39 (Int64.ofNat (pk lb)) (Int64.ofNat (pk lx)) (Int64.ofNat (pk ly)) v13 (n + (j + 1)) (Int32.ofNat i) g = some w ∧ BF lb lx ly w.2 := by
  intro j
  induction j with
  | zero =>
    intro i hi g hg n
    rw [L_M_mergedQueue_39, if_pos ((le_c 16 (by decide) (by omega)).mpr (by omega))]
    exact ⟨_, rfl, fun e he => hg e (by omega)⟩
  | succ j ih =>
    intro i hi g hg n
    rw [show n + (j + 1 + 1) = (n + (j + 1)) + 1 by omega, L_M_mergedQueue_39, if_neg (fun g => absurd ((le_c 16 (by decide) (by omega)).mp g) (by omega))]
    rw [isIn_eq _ (by omega), bl_i _ (by omega), ob, hv i (by omega), decide_eq_true (show i < 16 by omega), Bool.true_and]
    by_cases hm : mM lb lx ly i = true
    · rw [hm, zB_t, if_neg (by decide)]
      obtain ⟨m1, e1, b1⟩ := standing_eq h1 (v := i) (by omega)
      obtain ⟨m2, e2, b2⟩ := standing_eq h2 (v := i) (by omega)
      obtain ⟨m3, e3, b3⟩ := standing_eq h3 (v := i) (by omega)
      obtain ⟨m, e4, b4⟩ := mset_bit m1 m2 m3
      rw [e1, e2, e3, ob, ob, ob, e4, ob, if_pos ((n_zin (by omega)).mpr (by omega)), n_cl (by omega), n_s]
      refine ih (i + 1) (by omega) _ (fun e he hme u hu => ?_) n
      by_cases ei : e = i
      · subst ei
        rw [upd_at, b4 u hu, b1 u hu, b2 u hu, b3 u hu]; rfl
      · rw [upd_ne _ _ ei]
        exact hg e (by omega) hme u hu
    · rw [Bool.not_eq_true] at hm
      rw [hm, zB_f, if_pos rfl, n_s]
      refine ih (i + 1) (by omega) g (fun e he hme u hu => ?_) n
      by_cases ei : e = i
      · subst ei
        rw [hm] at hme; cases hme
      · exact hg e (by omega) hme u hu
theorem c39_eq (h1 : ql lb) (h2 : ql lx) (h3 : ql ly) {v13 : Int32} (hv : ∀ u < 32, bi v13 u = (decide (u < 16) && mM lb lx ly u)) (g : Nat → Int32) : ∃ w, L_M_mergedQueue_39 (Int64.ofNat (pk lb)) (Int64.ofNat (pk lx)) (Int64.ofNat (pk ly)) v13 zfuel 0 g = some w ∧ BF lb lx ly w.2 := by
  obtain ⟨n, hn⟩ := zfuel_lt (k := 16) (by omega)
  rw [hn]
  exact c39 h1 h2 h3 hv 16 0 rfl g (fun e he => absurd he (by omega)) n
/-- only the queue of slot 65 may differ -/
def zfq (ρ g : RSt) : Prop := g = ((ρ.1.1, (((g.1.2.1.1.1, ρ.1.2.1.1.2), ρ.1.2.1.2), ρ.1.2.2)), ρ.2) ∧ ∀ j, (j < 520 ∨ 528 ≤ j) → g.1.2.1.1.1 j = ρ.1.2.1.1.1 j
theorem zfq_r (ρ : RSt) : zfq ρ ρ := ⟨rfl, fun _ _ => rfl⟩
theorem zfq_zqr {g : RSt} (h : zfq ρ g) {t : Nat} {l : List Nat} (hl : ql l) (ht : t ≠ 65) (hq : zqr ρ t l) : zqr g t l := by
  refine ⟨?_, fun i e he => ?_⟩
  · rw [h.1]; exact hq.1
  · have : i < l.length := (List.getElem?_eq_some_iff.mp he).1
    have := hl.1
    rw [h.2 (8 * t + i) (by omega)]
    exact hq.2 i e he
theorem zfq_QS {g : RSt} (hg : zfq ρ g) (h : QS ρ tb tx ty lb lx ly) (nb : tb ≠ 65) (nx : tx ≠ 65) (ny : ty ≠ 65) : QS g tb tx ty lb lx ly :=
  ⟨h.1, h.2.1, zfq_zqr hg h.2.1.1 nb h.2.2.1, zfq_zqr hg h.2.1.2.1 nx h.2.2.2.1, zfq_zqr hg h.2.1.2.2 ny h.2.2.2.2⟩
theorem mq_L (h : QS ρ tb tx ty lb lx ly) (nb : tb ≠ 65) (nx : tx ≠ 65) (ny : ty ≠ 65) {c : Nat} (hc : c ≤ 8) {w39 : Int32 × (Nat → Int32)} (hB : BF lb lx ly w39.2) {w9 : Int32 × Int32 × Int32} (h9 : w9.2.2 = Int32.ofNat c) :
    ∀ (j i : Nat), i + j = c → ∀ (l : List Nat) (k : Int32) (g : RSt), l.length = i → (∀ e ∈ l, e < 16) → SB lb lx ly k → zfq ρ g → (∀ m e, l[m]? = some e → g.1.2.1.1.1 (520 + m) = Int32.ofNat e) → ∀ n,
    (∃ g', L_M_mergedQueue_98 (Int32.ofNat c) w39 (n + (j + 1)) (Int32.ofNat i) (Int64.ofNat (pk l)) k = some (Sum.inl (-1, w39.2)) ∧ L_R_mergeQueues_89 (Int32.ofNat tb) (Int32.ofNat tx) (Int32.ofNat ty) w9 (n + (j + 1)) (Int32.ofNat i) k g = some (Sum.inl (0, g')) ∧ zfq ρ g') ∨
    (∃ l' x k' x' k'' g', L_M_mergedQueue_98 (Int32.ofNat c) w39 (n + (j + 1)) (Int32.ofNat i) (Int64.ofNat (pk l)) k = some (Sum.inr (x, Int64.ofNat (pk l'), k')) ∧ L_R_mergeQueues_89 (Int32.ofNat tb) (Int32.ofNat tx) (Int32.ofNat ty) w9 (n + (j + 1)) (Int32.ofNat i) k g = some (Sum.inr (x', k'', g')) ∧ l'.length = c ∧ (∀ e ∈ l', e < 16) ∧ zfq ρ g' ∧ (∀ m e, l'[m]? = some e → g'.1.2.1.1.1 (520 + m) = Int32.ofNat e)) := by
  intro j
  induction j with
  | zero =>
    intro i hi l k g hl hl16 hk hg hq n
    rw [L_M_mergedQueue_98, L_R_mergeQueues_89, h9, if_pos ((n_le (by omega) (by omega)).mpr (by omega)), if_pos ((n_le (by omega) (by omega)).mpr (by omega))]
    exact Or.inr ⟨l, _, _, _, _, g, rfl, rfl, by omega, hl16, hg, hq⟩
  | succ j ih =>
    intro i hi l k g hl hl16 hk hg hq n
    rw [show n + (j + 1 + 1) = (n + (j + 1)) + 1 by omega, L_M_mergedQueue_98, L_R_mergeQueues_89, h9, if_neg (fun g => absurd ((n_le (by omega) (by omega)).mp g) (by omega)), if_neg (fun g => absurd ((n_le (by omega) (by omega)).mp g) (by omega))]
    obtain ⟨r, e1, f1⟩ := leastFree_eq hB hk
    obtain ⟨w, e2, f2⟩ := r103_eq (zfq_QS hg h nb nx ny) k
    have er := LF_uniq f2 f1
    rw [e1, e2, ob, ob, er]
    rcases f1 with ⟨a1, a2⟩ | ⟨v, a1, a2, a3, a4, a5⟩
    · left
      rw [a1, if_pos rfl, if_neg (by decide)]
      exact ⟨g, rfl, rfl, hg⟩
    · rw [a3, if_neg (n_ne1 (by omega)), if_pos (n_p (by omega)), ← hl, with_eq hl16 (by omega) a2, ob, n_s]
      rw [show (520 : Int32) + Int32.ofNat l.length = Int32.ofNat (520 + l.length) from n_add 520 l.length, if_pos ((n_zin (by omega)).mpr (by omega)), n_cl (by omega)]
      refine ih (l.length + 1) (by omega) (l ++ [v]) _ _ (by simp) (fun e he => ?_) (fun u hu hb => ?_) ?_ (fun m e he => ?_) n
      · rcases List.mem_append.mp he with g1 | g1
        · exact hl16 e g1
        · simp at g1; omega
      · rw [bi_and] at hb
        exact hk u hu (Bool.and_eq_true_iff.mp hb).1
      · refine ⟨?_, fun m hm => ?_⟩
        · conv => lhs; rw [hg.1]
        · show upd g.1.2.1.1.1 (520 + l.length) (Int32.ofNat v) m = _
          rw [upd_ne _ _ (by omega)]
          exact hg.2 m hm
      · show upd g.1.2.1.1.1 (520 + l.length) (Int32.ofNat v) (520 + m) = _
        by_cases em : m = l.length
        · subst em
          rw [upd_at]
          simp at he
          rw [he]
        · rw [upd_ne _ _ (by omega)]
          have hm : m < (l ++ [v]).length := (List.getElem?_eq_some_iff.mp he).1
          simp at hm
          rw [List.getElem?_append_left (by omega)] at he
          exact hq m e he
/-- only size and queue of slot 65 may differ -/
def zfs (ρ g : RSt) : Prop := g = (((ρ.1.1.1, (ρ.1.1.2.1, g.1.1.2.2)), (((g.1.2.1.1.1, ρ.1.2.1.1.2), ρ.1.2.1.2), ρ.1.2.2)), ρ.2) ∧ (∀ j, (j < 520 ∨ 528 ≤ j) → g.1.2.1.1.1 j = ρ.1.2.1.1.1 j) ∧ ∀ j, j ≠ 65 → g.1.1.2.2 j = ρ.1.1.2.2 j
def qv (o : Option (List Nat)) : Int64 := match o with
  | some l => Int64.ofNat (pk l)
  | none => -1
theorem mq_one (h : QS ρ tb tx ty lb lx ly) (nb : tb ≠ 65) (nx : tx ≠ 65) (ny : ty ≠ 65) (bf : Nat → Int32) :
    ∃ (res : Option (List Nat)) (bf' : Nat → Int32) (ρ' : RSt), f_M_mergedQueue bf (Int64.ofNat (pk lb)) (Int64.ofNat (pk lx)) (Int64.ofNat (pk ly)) = some (qv res, bf') ∧ f_R_mergeQueues ρ (Int32.ofNat tb) (Int32.ofNat tx) (Int32.ofNat ty) = some (zB res.isSome, ρ') ∧ zfs ρ ρ' ∧ ∀ l, res = some l → ql l ∧ zqr ρ' 65 l := by
  obtain ⟨q1, q2, q3⟩ := h.2.1
  unfold f_M_mergedQueue f_R_mergeQueues
  obtain ⟨w0, m9, e9, b9⟩ := r9_eq h
  obtain ⟨v13, e13, b13⟩ := mset_bit (mm 0 lb) (mm 0 lx) (mm 0 ly)
  have hv : ∀ u < 32, bi v13 u = (decide (u < 16) && mM lb lx ly u) := by
    intro u hu
    rw [b13 u hu, mm_bit _ _ _ hu q1.2, mm_bit _ _ _ hu q2.2, mm_bit _ _ _ hu q3.2, bi_0, Bool.false_or, Bool.false_or, Bool.false_or]
    by_cases e : u < 16
    · simp [e, mM]
    · rw [show mg (decide (u ∈ lb)) (decide (u ∈ lx)) (decide (u ∈ ly)) = mM lb lx ly u from rfl, mM_16 q1 q2 q3 (by omega)]; simp
  have em : m9 = v13 := bi_ext (fun u hu => by rw [b9 u hu, hv u hu])
  subst em
  have hcnt : ct (bi m9) 32 = ct (mM lb lx ly) 16 := by
    rw [show (32 : Nat) = 16 + 16 from rfl, ct_off]
    · apply ct_congr
      intro i hi
      rw [hv i (by omega)]; simp [hi]
    · intro i hi
      rcases Nat.lt_or_ge i 32 with e | e
      · rw [hv i e]; simp [Nat.not_lt.mpr hi]
      · exact bi_hi _ e
  have hct := ct_le (mM lb lx ly) 16
  rw [members_eq q1, members_eq q2, members_eq q3, ob, ob, ob, e13, ob, popI, ob, e9, ob, hcnt]
  by_cases h8 : ct (mM lb lx ly) 16 ≤ 8
  · rw [if_pos ((c_le 8 (by decide) (by omega)).mpr h8), if_pos ((c_le 8 (by decide) (by omega)).mpr h8)]
    obtain ⟨w39, e39, b39⟩ := c39_eq q1 q2 q3 hv bf
    rw [e39, ob]
    obtain ⟨n, hn⟩ := zfuel_lt (k := ct (mM lb lx ly) 16) (by omega)
    rw [hn]
    have hQ : QS (((ρ.1.1.1, (ρ.1.1.2.1, upd ρ.1.1.2.2 ((65 : Int32).toNatClampNeg) (Int32.ofNat (ct (mM lb lx ly) 16)))), ρ.1.2), ρ.2) tb tx ty lb lx ly := by
      have e65 : (65 : Int32).toNatClampNeg = 65 := by decide
      refine ⟨h.1, h.2.1, ⟨?_, h.2.2.1.2⟩, ⟨?_, h.2.2.2.1.2⟩, ⟨?_, h.2.2.2.2.2⟩⟩
      · show upd ρ.1.1.2.2 _ _ tb = _
        rw [e65, upd_ne _ _ nb]; exact h.2.2.1.1
      · show upd ρ.1.1.2.2 _ _ tx = _
        rw [e65, upd_ne _ _ nx]; exact h.2.2.2.1.1
      · show upd ρ.1.1.2.2 _ _ ty = _
        rw [e65, upd_ne _ _ ny]; exact h.2.2.2.2.1
    have e65 : (65 : Int32).toNatClampNeg = 65 := by decide
    have hfs : ∀ g', zfq (((ρ.1.1.1, (ρ.1.1.2.1, upd ρ.1.1.2.2 ((65 : Int32).toNatClampNeg) (Int32.ofNat (ct (mM lb lx ly) 16)))), ρ.1.2), ρ.2) g' → zfs ρ g' ∧ g'.1.1.2.2 65 = Int32.ofNat (ct (mM lb lx ly) 16) := by
      intro g' hg'
      have es : g'.1.1.2.2 = upd ρ.1.1.2.2 ((65 : Int32).toNatClampNeg) (Int32.ofNat (ct (mM lb lx ly) 16)) := by rw [hg'.1]
      refine ⟨⟨?_, hg'.2, fun j hj => ?_⟩, ?_⟩
      · rw [es]; exact hg'.1
      · rw [es, e65, upd_ne _ _ hj]
      · rw [es, e65, upd_at]
    rcases mq_L (c := ct (mM lb lx ly) 16) hQ nb nx ny h8 b39 (w9 := (w0, m9, Int32.ofNat (ct (mM lb lx ly) 16))) rfl (ct (mM lb lx ly) 16) 0 (by omega) [] m9 _ rfl (by simp) (fun u hu hb => by rw [hv u hu] at hb; simpa using hb) (zfq_r _) (fun m e he => by simp at he) n with ⟨g', a1, a2, a3⟩ | ⟨l', x, k', x', k'', g', a1, a2, a3, a4, a5, a6⟩
    · rw [show L_M_mergedQueue_98 (Int32.ofNat (ct (mM lb lx ly) 16)) w39 (n + (ct (mM lb lx ly) 16 + 1)) 0 0 m9 = _ from a1, ob]
      refine ⟨none, w39.2, g', rfl, ?_, (hfs g' a3).1, fun l hl => by cases hl⟩
      exact congrArg (fun o => Option.bind o _) a2
    · rw [show L_M_mergedQueue_98 (Int32.ofNat (ct (mM lb lx ly) 16)) w39 (n + (ct (mM lb lx ly) 16 + 1)) 0 0 m9 = _ from a1, ob]
      refine ⟨some l', w39.2, g', rfl, ?_, (hfs g' a5).1, fun l hl => ?_⟩
      · exact congrArg (fun o => Option.bind o _) a2
      · cases hl
        refine ⟨⟨by omega, a4⟩, ?_, a6⟩
        rw [(hfs g' a5).2, a3]
  · rw [if_neg (fun g => h8 ((c_le 8 (by decide) (by omega)).mp g)), if_neg (fun g => h8 ((c_le 8 (by decide) (by omega)).mp g))]
    exact ⟨none, bf, ρ, rfl, rfl, ⟨rfl, fun _ _ => rfl, fun _ _ => rfl⟩, fun l hl => by cases hl⟩
theorem zqr_uniq {t : Nat} {l l' : List Nat} (h : ql l) (h' : ql l') (a : zqr ρ t l) (b : zqr ρ t l') : l = l' := by
  have e1 : l.length = l'.length := by
    have h1 := h.1
    have h2 := h'.1
    have := a.1.symm.trans b.1
    exact (n_eq (by omega) (by omega)).mp this
  apply List.ext_getElem?
  intro i
  rcases Nat.lt_or_ge i l.length with hi | hi
  · have x1 : l[i]? = some l[i] := List.getElem?_eq_getElem hi
    have x2 : l'[i]? = some l'[i] := List.getElem?_eq_getElem (by omega)
    have y1 := qn_ne h x1
    have y2 := qn_ne h' x2
    have := (a.2 i _ x1).symm.trans (b.2 i _ x2)
    rw [x1, x2, (n_eq (by omega) (by omega)).mp this]
  · rw [List.getElem?_eq_none hi, List.getElem?_eq_none (by omega)]
theorem mq_all (h : QS ρ tb tx ty lb lx ly) (nb : tb ≠ 65) (nx : tx ≠ 65) (ny : ty ≠ 65) :
    ∃ (res : Option (List Nat)) (ρ' : RSt), (∀ bf, ∃ bf', f_M_mergedQueue bf (Int64.ofNat (pk lb)) (Int64.ofNat (pk lx)) (Int64.ofNat (pk ly)) = some (qv res, bf')) ∧ f_R_mergeQueues ρ (Int32.ofNat tb) (Int32.ofNat tx) (Int32.ofNat ty) = some (zB res.isSome, ρ') ∧ zfs ρ ρ' ∧ ∀ l, res = some l → ql l ∧ zqr ρ' 65 l := by
  obtain ⟨res, _, ρ', a1, a2, a3, a4⟩ := mq_one h nb nx ny (fun _ => 0)
  refine ⟨res, ρ', fun bf => ?_, a2, a3, a4⟩
  obtain ⟨res2, bf2, ρ2, b1, b2, b3, b4⟩ := mq_one h nb nx ny bf
  rw [a2] at b2
  have e := Option.some.inj b2
  have e1 : zB res.isSome = zB res2.isSome := congrArg Prod.fst e
  have e2 : ρ' = ρ2 := congrArg Prod.snd e
  subst e2
  have e3 : res = res2 := by
    cases res with
    | none => cases res2 with
      | none => rfl
      | some l2 => exact absurd e1 (show ¬ ((0 : Int32) = 1) by decide)
    | some l1 => cases res2 with
      | none => exact absurd e1 (show ¬ ((1 : Int32) = 0) by decide)
      | some l2 =>
        obtain ⟨c1, c2⟩ := a4 l1 rfl
        obtain ⟨d1, d2⟩ := b4 l2 rfl
        rw [zqr_uniq c1 d1 c2 d2]
  subst e3
  exact ⟨bf2, b1⟩
end

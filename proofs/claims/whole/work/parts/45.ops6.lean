/-! ===== the calls, one by one: by the plan ===== -/
section OPS6
variable {x0 x1 x2 x3 x4 x5 x6 x7 x8 s0 s1 s2 s3 g : Mem} {A : Fk}
theorem isT_nI {B : Fk} (h3 : B 0 0 ≤ 3) {b s k n : Nat} (hb : b < 5) (hs : s < 5) (hbs : b ≠ s) (hg : k < B 0 0) (hn1 : 1 ≤ n) (hn : n ≤ 9) : isT B (nI b) (nI s) (nI k) (nI n) = true := by
  unfold isT
  rw [wi_nI (by omega) (by decide) (by decide), wi_nI (by omega) (by decide) (by decide), wi_nI (by omega) (by decide) (by decide), hasG_nI (by omega) hg, decide_eq_false (fun z => hbs ((nI_eq (by omega) (by omega)).mp z)), decide_eq_true (Nat.zero_le b), decide_eq_true (Nat.zero_le s), decide_eq_true (show b ≤ 4 by omega), decide_eq_true (show s ≤ 4 by omega), decide_eq_true hn1, decide_eq_true hn]
  rfl
theorem canI_nI {B : Fk} (h3 : B 0 0 ≤ 3) {b s k n : Nat} (hb : b < 5) (hs : s < 5) (hbs : b ≠ s) (hg : k < B 0 0) (hn1 : 1 ≤ n) (hn : n ≤ 9) : canI B (nI b) (nI s) (nI k) (nI n) = canT B b s k n := by
  unfold canI
  rw [isT_nI h3 hb hs hbs hg hn1 hn, nI_clamp (by omega), nI_clamp (by omega), nI_clamp (by omega), nI_clamp (by omega), Bool.true_and]
theorem tryT_nI {B : Fk} (h3 : B 0 0 ≤ 3) {b s k n : Nat} (hb : b < 5) (hs : s < 5) (hbs : b ≠ s) (hg : k < B 0 0) (hn1 : 1 ≤ n) (hn : n ≤ 9) : tryT B (nI b) (nI s) (nI k) (nI n) = if canT B b s k n = true then exch B b s k n else B := by
  unfold tryT
  rw [canI_nI h3 hb hs hbs hg hn1 hn, nI_clamp (by omega), nI_clamp (by omega), nI_clamp (by omega), nI_clamp (by omega)]
theorem okF_tryT {A : Fk} (hk : okF A) (y1 y2 y3 y4 : Int32) : okF (tryT A y1 y2 y3 y4) := by
  by_cases hc : canI A y1 y2 y3 y4 = true
  · have h3 := hk.1.1
    have hT : isT A y1 y2 y3 y4 = true := by
      unfold canI at hc
      rw [Bool.and_eq_true] at hc
      exact hc.1
    obtain ⟨b, s, k, n, rfl, rfl, rfl, rfl, hb, hs, hbs, hg, hn1, hn⟩ := isT_of hk hT
    rw [canI_nI h3 hb hs hbs hg hn1 hn] at hc
    rw [tryT_nI h3 hb hs hbs hg hn1 hn, if_pos hc]
    exact okF_exch hk hb hs hbs hg hc
  · unfold tryT
    rw [if_neg hc]
    exact hk
theorem okF_planTo {A : Fk} (hk : okF A) (w : Int32) : ∀ i, okF (planTo A w i)
  | 0 => hk
  | i + 1 => by
    have ih := okF_planTo hk w i
    unfold planTo
    split
    · exact ih
    · exact okF_tryT ih _ _ _ _
/-- does the i-th trade of the plan come? -/
def pI (A : Fk) (w : Int32) (i : Nat) : Bool := canT (planTo A w i) (A 7 i) (A 8 i) (A 9 i) (A 10 i)
def cameTo (A : Fk) (w : Int32) : Nat → Nat
  | 0 => 0
  | i + 1 => if nI i = w then cameTo A w i else if pI A w i = true then cameTo A w i + 1 else cameTo A w i
def firstTo (A : Fk) (w : Int32) : Nat → Int32
  | 0 => -4
  | i + 1 => if nI i = w then firstTo A w i else if pI A w i = true then firstTo A w i else if firstTo A w i = -4 then nI i else firstTo A w i
def paidTo (A : Fk) (w : Int32) : Nat → Nat
  | 0 => 0
  | i + 1 => if nI i = w then paidTo A w i else if pI A w i = true then paidTo A w i + A 10 i * A 3 (A 9 i) else paidTo A w i
theorem cameTo_S (A : Fk) (w : Int32) (i : Nat) : cameTo A w (i + 1) = if nI i = w then cameTo A w i else if pI A w i = true then cameTo A w i + 1 else cameTo A w i := rfl
theorem firstTo_S (A : Fk) (w : Int32) (i : Nat) : firstTo A w (i + 1) = if nI i = w then firstTo A w i else if pI A w i = true then firstTo A w i else if firstTo A w i = -4 then nI i else firstTo A w i := rfl
theorem paidTo_S (A : Fk) (w : Int32) (i : Nat) : paidTo A w (i + 1) = if nI i = w then paidTo A w i else if pI A w i = true then paidTo A w i + A 10 i * A 3 (A 9 i) else paidTo A w i := rfl
theorem planTo_S {A : Fk} (hk : okF A) {w : Int32} {i : Nat} (hi : i < A 0 2) (hw : ¬ nI i = w) : planTo A w (i + 1) = if pI A w i = true then exch (planTo A w i) (A 7 i) (A 8 i) (A 9 i) (A 10 i) else planTo A w i := by
  obtain ⟨q1, q2, q3, q4, q5, q6⟩ := hk.2.2.2.2.1 i hi
  have e : ∀ a b, a ≠ 4 → a ≠ 5 → planTo A w i a b = A a b := fun a b h4 h5 => planTo_no h4 h5 i
  have e1 : planTo A w (i + 1) = tryP (planTo A w i) i := by
    show (if nI i = w then planTo A w i else tryP (planTo A w i) i) = _
    rw [if_neg hw]
  rw [e1]
  unfold tryP pI
  rw [e 7 i (by decide) (by decide), e 8 i (by decide) (by decide), e 9 i (by decide) (by decide), e 10 i (by decide) (by decide)]
  exact tryT_nI (by rw [e 0 0 (by decide) (by decide)]; exact hk.1.1) q1 q2 q3 (by rw [e 0 0 (by decide) (by decide)]; exact q4) q5 q6
theorem pI_canI {A : Fk} (hk : okF A) {w : Int32} {i : Nat} (hi : i < A 0 2) : canI (planTo A w i) (nI (planTo A w i 7 i)) (nI (planTo A w i 8 i)) (nI (planTo A w i 9 i)) (nI (planTo A w i 10 i)) = pI A w i := by
  obtain ⟨q1, q2, q3, q4, q5, q6⟩ := hk.2.2.2.2.1 i hi
  have e : ∀ a b, a ≠ 4 → a ≠ 5 → planTo A w i a b = A a b := fun a b h4 h5 => planTo_no h4 h5 i
  rw [e 7 i (by decide) (by decide), e 8 i (by decide) (by decide), e 9 i (by decide) (by decide), e 10 i (by decide) (by decide)]
  exact canI_nI (by rw [e 0 0 (by decide) (by decide)]; exact hk.1.1) q1 q2 q3 (by rw [e 0 0 (by decide) (by decide)]; exact q4) q5 q6
/-- the model's memory while it tries the plan -/
def PG (g : Mem) (A : Fk) (w : Int32) (i : Nat) (f : Mem) : Prop := MS f 240 (planTo A w i) ∧ Keep g f ∧ f 0 13 = nI (cameTo A w i) ∧ f 0 14 = firstTo A w i ∧ f 0 15 = nI (paidTo A w i)
theorem Keep_mset {g : Mem} {j : Nat} {v : Int32} (h : ¬ (j = 0 ∨ j = 5 ∨ j = 6 ∨ j = 21 ∨ j = 22)) : Keep g (mset 0 j v g) :=
  ⟨⟨fun k hk => mset_no (by omega), fun k _ _ => by rw [mset_ne (by decide)], fun i h1 _ => mset_ne (by omega)⟩, fun k _ => by rw [mset_ne (by decide)]⟩
theorem planGoes_step (hm : MS g 0 A) (hk : okF A) {w : Int32} {i : Nat} (hi : i < A 0 2) {f : Mem} (hf : PG g A w i f) : ∃ f', p_X7_planGoes_L26 w (nI i, f) = some (.inl (nI (i + 1), f')) ∧ PG g A w (i + 1) f' := by
  have h6 := hk.1.2
  have h3 := hk.1.1
  obtain ⟨q1, q2, q3, q4, q5, q6⟩ := hk.2.2.2.2.1 i hi
  obtain ⟨f1, f2, f3, f4, f5⟩ := hf
  have m0 := MS_Keep hk hm f2
  have e59 : (nI 59).toNatClampNeg = 59 := by decide
  unfold p_X7_planGoes_L26
  dsimp only
  rw [gd_t (by decide), e59, MZ_many m0, if_neg (nI_ge hi (by omega))]
  by_cases hw : nI i = w
  · rw [if_pos hw, nI_add]
    refine ⟨f, rfl, ?_, f2, ?_, ?_, ?_⟩
    · show MS f 240 (if nI i = w then planTo A w i else tryP (planTo A w i) i)
      rw [if_pos hw]; exact f1
    · rw [cameTo_S, if_pos hw]; exact f3
    · rw [firstTo_S, if_pos hw]; exact f4
    · rw [paidTo_S, if_pos hw]; exact f5
  · have e : ∀ a b, a ≠ 4 → a ≠ 5 → planTo A w i a b = A a b := fun a b h4 h5 => planTo_no h4 h5 i
    have okp := okF_planTo hk w i
    obtain ⟨g', u1, u2, u3⟩ := buysOn_eq f1 okp (by decide) q1 q2 (by rw [e 0 0 (by decide) (by decide)]; exact q4) (show A 10 i < 1000 by omega)
    have uk := Fr_Keep u3 (by decide)
    have m1 := MS_Keep hk m0 uk
    have p0 := MZ_plan m0 hi (show 0 < 4 by decide)
    have p1 := MZ_plan m0 hi (show 1 < 4 by decide)
    have p2 := MZ_plan m0 hi (show 2 < 4 by decide)
    have p3 := MZ_plan m0 hi (show 3 < 4 by decide)
    have r2 := MZ_plan m1 hi (show 2 < 4 by decide)
    have r3 := MZ_plan m1 hi (show 3 < 4 by decide)
    have rp := MZ_face m1 hk (show 2 < 3 by decide) q4
    simp only [Nat.add_zero, Nat.reduceAdd, Nat.reduceMul] at p0 p1 p2 p3 r2 r3 rp
    rw [if_neg hw, pk_mul, nI_add, nI_add, nI_add, nI_add, gd_t (inb_nI (by omega) (by decide)), gd_t (inb_nI (by omega) (by decide)), gd_t (inb_nI (by omega) (by decide)), gd_t (inb_nI (by omega) (by decide)), nI_clamp (by omega), nI_clamp (by omega), nI_clamp (by omega), nI_clamp (by omega), p0, p1, p2, p3, u1]
    simp only [Option.bind_some, bI_0]
    have eS := planTo_S hk hi hw
    have fp : (planTo A w i) 0 0 = A 0 0 := e 0 0 (by decide) (by decide)
    have c13 : g' 0 13 = f 0 13 := by rw [u3.1 0 (by decide)]
    have c14 : g' 0 14 = f 0 14 := by rw [u3.1 0 (by decide)]
    have c15 : g' 0 15 = f 0 15 := by rw [u3.1 0 (by decide)]
    cases hc : canT (planTo A w i) (A 7 i) (A 8 i) (A 9 i) (A 10 i) with
    | false =>
      have hpI : pI A w i = false := hc
      rw [hc, if_neg (by decide)] at u2
      rw [hpI, if_neg (by decide)] at eS
      rw [if_pos rfl, c14, f4]
      have ec : cameTo A w (i + 1) = cameTo A w i := by rw [cameTo_S, if_neg hw, hpI, if_neg (by decide)]
      have ep : paidTo A w (i + 1) = paidTo A w i := by rw [paidTo_S, if_neg hw, hpI, if_neg (by decide)]
      have ef : firstTo A w (i + 1) = if firstTo A w i = -4 then nI i else firstTo A w i := by
        rw [firstTo_S, if_neg hw, hpI, if_neg (by decide)]
      refine ⟨mset 0 14 (firstTo A w (i + 1)) g', ?_, ?_, Keep_tr (Keep_tr f2 uk) (Keep_mset (by decide)), ?_, mset_s, ?_⟩
      · rw [ef]
        unfold p_X7_planGoes_B154
        rw [nI_add]
        split <;> rfl
      · rw [eS]
        exact MS_as u2 (mset_no (by decide)) (mset_ne (by decide))
      · rw [mset_no (by decide), c13, f3, ec]
      · rw [mset_no (by decide), c15, f5, ep]
    | true =>
      have hpI : pI A w i = true := hc
      rw [hc, if_pos rfl] at u2
      rw [hpI, if_pos rfl] at eS
      rw [if_neg (by decide), r2, nI_add, gd_t (inb_nI (by omega) (by decide)), gd_t (inb_nI (by omega) (by decide)), gd_t (inb_nI (by omega) (by decide)), nI_clamp (by omega), rp, r3, c13, c15, f3, f5, pk_mul, nI_add, nI_add, nI_add]
      have ec : cameTo A w (i + 1) = cameTo A w i + 1 := by rw [cameTo_S, if_neg hw, hpI, if_pos rfl]
      have ep : paidTo A w (i + 1) = paidTo A w i + A 10 i * A 3 (A 9 i) := by rw [paidTo_S, if_neg hw, hpI, if_pos rfl]
      have ef : firstTo A w (i + 1) = firstTo A w i := by
        rw [firstTo_S, if_neg hw, hpI, if_pos rfl]
      refine ⟨_, rfl, ?_, Keep_tr (Keep_tr f2 uk) (Keep_tr (Keep_mset (by decide)) (Keep_mset (by decide))), ?_, ?_, ?_⟩
      · rw [eS]
        exact MS_as u2 (by rw [mset_no (by decide), mset_no (by decide)]) (by rw [mset_ne (by decide), mset_ne (by decide)])
      · rw [mset_no (by decide), mset_s, ec]
      · rw [mset_no (by decide), mset_no (by decide), c14, f4, ef]
      · rw [mset_s, ep]
theorem planGoes_eq (hm : MS g 0 A) (hk : okF A) (w : Int32) : ∃ g', p_X7_planGoes g w = some g' ∧ PG g A w (A 0 2) g' := by
  have h6 := hk.1.2
  obtain ⟨g1, t1, t2, t3⟩ := copyOn_eq (b := 240) hk hm (by decide) (by decide) (.inl (by decide))
  have hP : PG g A w 0 (mset 0 15 (nI 0) (mset 0 14 (-4) (mset 0 13 (nI 0) g1))) := ⟨MS_as t2 (by rw [mset_no (by decide), mset_no (by decide), mset_no (by decide)]) (by rw [mset_ne (by decide), mset_ne (by decide), mset_ne (by decide)]), Keep_tr (Fr_Keep t3 (by decide)) (Keep_tr (Keep_mset (by decide)) (Keep_tr (Keep_mset (by decide)) (Keep_mset (by decide)))), by rw [mset_no (by decide), mset_no (by decide), mset_s]; rfl, by rw [mset_no (by decide), mset_s]; rfl, by rw [mset_s]; rfl⟩
  obtain ⟨x, hx, hQ⟩ := lp_ex (b := p_X7_planGoes_L26 w) (I := fun i z => z.1 = nI i ∧ PG g A w i z.2) (Q := fun z => PG g A w (A 0 2) z) (A 0 2)
    (fun i hi z hz => by
      obtain ⟨z1, z3⟩ := z
      obtain ⟨rfl, e3⟩ := hz
      obtain ⟨f', q1, q2⟩ := planGoes_step hm hk hi e3
      exact ⟨_, q1, rfl, q2⟩)
    (fun z hz => by
      obtain ⟨z1, z3⟩ := z
      obtain ⟨rfl, e3⟩ := hz
      have m0 := MS_Keep hk hm e3.2.1
      have e59 : (nI 59).toNatClampNeg = 59 := by decide
      refine ⟨z3, ?_, e3⟩
      unfold p_X7_planGoes_L26
      dsimp only at m0 ⊢
      rw [gd_t (by decide), e59, MZ_many m0, if_pos (Int32.le_refl _)]) (i := 0) (s := (nI 0, mset 0 15 (nI 0) (mset 0 14 (-4) (mset 0 13 (nI 0) g1)))) (by omega)
      ⟨rfl, hP⟩
  refine ⟨x, ?_, hQ⟩
  unfold p_X7_planGoes
  rw [t1]
  simp only [Option.bind_some]
  rw [hx]
  rfl
theorem op_ahead (R : Rel x0 x1 x3 x4 x5 x6 x8 s0 s1 s2 s3 g) (x2 : Mem) (a b : Int32) : ∃ r x2' g', p_X6_ahead x0 x1 x2 a b = some (r, x2') ∧ p_X7_ahead g a b = some (r, g') ∧ Rel x0 x1 x3 x4 x5 x6 x8 s0 s1 s2 s3 g' := by
  have R0 := R
  obtain ⟨A, h, hk, hm, hR⟩ := R
  unfold p_X6_ahead p_X7_ahead
  rw [isOwner_eq, isOwnerM_eq, in_c0 3 (by decide)]
  simp only [Option.bind_some, bI_0]
  cases hO : wi a (nI 0) (nI 4) with
  | false => exact ⟨-1, x2, g, rfl, rfl, R0⟩
  | true =>
    obtain ⟨o, ho, rfl⟩ := wi_of (by decide) hO
    obtain ⟨f1, c1, c2⟩ := copyFrom_eq (f := x2) h hk
    obtain ⟨f2, d1, d2, d3⟩ := followPlanWithout_eq c2 hk (-4)
    rw [ite_tf, ite_tf, c1]
    simp only [Option.bind_some]
    rw [d1]
    simp only [Option.bind_some]
    cases hW : wi b (nI 0) (nI 3) with
    | false => exact ⟨-1, f2, g, by rw [ofOwner_no hW]; rfl, rfl, R0⟩
    | true =>
      obtain ⟨j, -, hj, rfl⟩ := wi_in (by decide) (by decide) hW
      obtain ⟨g', u1, u2, u3, -⟩ := planGoes_eq hm hk (-4)
      refine ⟨own (planTo A (-4) (A 0 2)) o j, f2, g', by rw [ofOwner_eq d2 d3 (by omega) hj]; rfl, ?_, Rel_Keep R0 u3⟩
      rw [if_neg (by decide), u1]
      simp only [Option.bind_some]
      rw [ownerOn_eq u2 d3 (by decide) (by omega) hj]
      rfl
theorem op_runs (R : Rel x0 x1 x3 x4 x5 x6 x8 s0 s1 s2 s3 g) (x2 : Mem) (a : Int32) : ∃ r x2' g', p_X6_runs x0 x1 x2 a = some (r, x2') ∧ p_X7_runs g a = some (r, g') ∧ Rel x0 x1 x3 x4 x5 x6 x8 s0 s1 s2 s3 g' := by
  have R0 := R
  obtain ⟨A, h, hk, hm, hR⟩ := R
  have h6 := hk.1.2
  unfold p_X6_runs p_X7_runs
  rw [isWithin_eq, in_c0 2 (by decide)]
  simp only [Option.bind_some, bI_0]
  cases hO : wi a (nI 0) (nI 2) with
  | false => exact ⟨-1, x2, g, rfl, rfl, R0⟩
  | true =>
    obtain ⟨f1, c1, c2⟩ := copyFrom_eq (f := x2) h hk
    obtain ⟨g', u1, u2, u3, u4, u5, u6⟩ := planGoes_eq hm hk (-4)
    have hw : ∀ i, i < A 0 2 → ¬ nI i = -4 := fun i hi => nI_m (by omega) (by decide)
    obtain ⟨x, hx, hQ⟩ := lp_ex (b := p_X6_runs_L33 x0 x1 a) (I := fun i z => z.1 = nI (cameTo A (-4) i) ∧ z.2.1 = firstTo A (-4) i ∧ z.2.2.1 = nI (paidTo A (-4) i) ∧ z.2.2.2.1 = nI i ∧ enc z.2.2.2.2 (planTo A (-4) i)) (Q := fun z => z.1 = nI (cameTo A (-4) (A 0 2)) ∧ z.2.1 = firstTo A (-4) (A 0 2) ∧ z.2.2.1 = nI (paidTo A (-4) (A 0 2))) (A 0 2)
      (fun i hi z hz => by
        obtain ⟨z1, z2, z3, z4, z5⟩ := z
        obtain ⟨rfl, rfl, rfl, rfl, e5⟩ := hz
        dsimp only at e5
        have okp := okF_planTo hk (-4) i
        have e02 : planTo A (-4) i 0 2 = A 0 2 := planTo_no (by decide) (by decide) i
        obtain ⟨f', q1, q2, q3⟩ := tryPlanned_eq e5 okp (i := i) (by rw [e02]; exact hi)
        rw [pI_canI hk hi] at q1
        have eP : tryP (planTo A (-4) i) i = planTo A (-4) (i + 1) := by
          show _ = (if nI i = (-4 : Int32) then planTo A (-4) i else tryP (planTo A (-4) i) i)
          rw [if_neg (hw i hi)]
        rw [eP] at q2 q3
        have e02b : planTo A (-4) (i + 1) 0 2 = A 0 2 := planTo_no (by decide) (by decide) _
        unfold p_X6_runs_L33
        dsimp only
        rw [e5.1.2.2, e02, if_neg (nI_ge hi (by omega)), q1]
        simp only [Option.bind_some, bI_0]
        cases hpI : pI A (-4) i with
        | false =>
          rw [if_pos rfl, nI_add]
          have ec : cameTo A (-4) (i + 1) = cameTo A (-4) i := by rw [cameTo_S, if_neg (hw i hi), hpI, if_neg (by decide)]
          have ep : paidTo A (-4) (i + 1) = paidTo A (-4) i := by rw [paidTo_S, if_neg (hw i hi), hpI, if_neg (by decide)]
          have ef : firstTo A (-4) (i + 1) = if firstTo A (-4) i = -4 then nI i else firstTo A (-4) i := by
            rw [firstTo_S, if_neg (hw i hi), hpI, if_neg (by decide)]
          by_cases hf : firstTo A (-4) i = -4
          · rw [if_pos hf] at ef ⊢
            exact ⟨_, rfl, by rw [ec], ef.symm, by rw [ep], rfl, q2⟩
          · rw [if_neg hf] at ef ⊢
            exact ⟨_, rfl, by rw [ec], ef.symm, by rw [ep], rfl, q2⟩
        | true =>
          have ec : cameTo A (-4) (i + 1) = cameTo A (-4) i + 1 := by rw [cameTo_S, if_neg (hw i hi), hpI, if_pos rfl]
          have ep : paidTo A (-4) (i + 1) = paidTo A (-4) i + A 10 i * A 3 (A 9 i) := by rw [paidTo_S, if_neg (hw i hi), hpI, if_pos rfl]
          have ef : firstTo A (-4) (i + 1) = firstTo A (-4) i := by
            rw [firstTo_S, if_neg (hw i hi), hpI, if_pos rfl]
          have e : ∀ a b, a ≠ 4 → a ≠ 5 → planTo A (-4) (i + 1) a b = A a b := fun a b h4 h5 => planTo_no h4 h5 _
          rw [if_neg (by decide), costOfPlanned_eq q2 q3 (by rw [e02b]; exact hi), e 10 i (by decide) (by decide), e 9 i (by decide) (by decide), e 3 _ (by decide) (by decide)]
          simp only [Option.bind_some, nI_add]
          exact ⟨_, rfl, by rw [ec], ef.symm, by rw [ep], rfl, q2⟩)
      (fun z hz => by
        obtain ⟨z1, z2, z3, z4, z5⟩ := z
        obtain ⟨rfl, rfl, rfl, rfl, e5⟩ := hz
        dsimp only at e5
        have e02 : planTo A (-4) (A 0 2) 0 2 = A 0 2 := planTo_no (by decide) (by decide) _
        refine ⟨(nI (cameTo A (-4) (A 0 2)), firstTo A (-4) (A 0 2), nI (paidTo A (-4) (A 0 2)), z5), ?_, rfl, rfl, rfl⟩
        unfold p_X6_runs_L33
        dsimp only
        rw [e5.1.2.2, e02, if_pos (Int32.le_refl _)]) (i := 0) (s := (nI 0, -4, nI 0, nI 0, f1)) (by omega) ⟨rfl, rfl, rfl, rfl, c2⟩
    obtain ⟨z1, z2, z3, z4⟩ := x
    obtain ⟨e1, e2, e3⟩ := hQ
    dsimp only at e1 e2 e3
    subst e1 e2 e3
    rw [ite_tf, ite_tf, c1, u1]
    simp only [Option.bind_some]
    rw [hx]
    simp only [Option.bind_some]
    rw [u4, u5, u6]
    by_cases ha : a = 0
    · rw [if_pos ha, if_pos ha]
      exact ⟨_, z4, g', rfl, rfl, Rel_Keep R0 u3⟩
    · rw [if_neg ha, if_neg ha]
      by_cases hb : a = nI 1
      · rw [if_pos hb, if_pos hb]
        exact ⟨_, z4, g', rfl, rfl, Rel_Keep R0 u3⟩
      · rw [if_neg hb, if_neg hb]
        exact ⟨_, z4, g', rfl, rfl, Rel_Keep R0 u3⟩
end OPS6

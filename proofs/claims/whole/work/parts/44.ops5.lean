/-! ===== the calls, one by one: by weeks ===== -/
section OPS5
variable {x0 x1 x2 x3 x4 x5 x6 x7 x8 s0 s1 s2 s3 g : Mem} {A : Fk}
theorem weeksGo_eq (hm : MS g 0 A) (hk : okF A) {n : Nat} (hn : n < 2 ^ 31) : ∃ g', p_X7_weeksGo g (nI n) = some g' ∧ MS g' 240 (weeks true A n).1 ∧ Keep g g' := by
  obtain ⟨g1, t1, t2, t3⟩ := copyOn_eq (b := 240) hk hm (by decide) (by decide) (.inl (by decide))
  obtain ⟨x, hx, hQ⟩ := lp_ex (b := p_X7_weeksGo_L10 (nI n)) (I := fun i z => z.1 = nI i ∧ MS z.2 240 (weeks true A i).1 ∧ Keep g z.2) (Q := fun z => MS z 240 (weeks true A n).1 ∧ Keep g z) n
    (fun i hi z hz => by
      obtain ⟨z1, z3⟩ := z
      obtain ⟨rfl, e3, e4⟩ := hz
      obtain ⟨g', q1, q2, q3⟩ := weekOn_eq (m := true) e3 (okF_weeks hk i) (by decide)
      refine ⟨(nI (i + 1), g'), ?_, rfl, q2, Keep_tr e4 (Fr_Keep q3 (by decide))⟩
      unfold p_X7_weeksGo_L10
      dsimp only at q1 ⊢
      rw [if_neg (nI_ge hi hn), show nI 1 = bI true from rfl, q1]
      simp only [Option.bind_some]
      rw [show bI true = nI 1 from rfl, nI_add])
    (fun z hz => by
      obtain ⟨z1, z3⟩ := z
      obtain ⟨rfl, e3, e4⟩ := hz
      refine ⟨z3, ?_, e3, e4⟩
      unfold p_X7_weeksGo_L10
      dsimp only
      rw [if_pos (Int32.le_refl _)]) (i := 0) (s := (nI 0, g1)) (by omega) ⟨rfl, t2, Fr_Keep t3 (by decide)⟩
  refine ⟨x, ?_, hQ.1, hQ.2⟩
  unfold p_X7_weeksGo
  rw [t1]
  simp only [Option.bind_some]
  rw [hx]
  rfl
theorem op_later (R : Rel x0 x1 x3 x4 x5 x6 x8 s0 s1 s2 s3 g) (x2 : Mem) (a b c : Int32) : ∃ r x2' g', p_X6_later x0 x1 x2 a b c = some (r, x2') ∧ p_X7_later g a b c = some (r, g') ∧ Rel x0 x1 x3 x4 x5 x6 x8 s0 s1 s2 s3 g' := by
  have R0 := R
  obtain ⟨A, h, hk, hm, hR⟩ := R
  have h3 := hk.1.1
  unfold p_X6_later p_X7_later
  rw [hasGoose_eq h, isOwner_eq, isWithin_eq, isGoose_eq hm.1, isOwnerM_eq, in_c0 60 (by decide)]
  simp only [Option.bind_some, bI_0]
  cases hG : hasG (A 0 0) a with
  | false => exact ⟨-1, x2, g, rfl, rfl, R0⟩
  | true =>
    obtain ⟨k, hg, rfl⟩ := hasG_of (geese_lt hk) hG
    rw [ite_tf, ite_tf]
    cases hO : wi b (nI 0) (nI 4) with
    | false => exact ⟨-1, x2, g, rfl, rfl, R0⟩
    | true =>
      obtain ⟨o, ho, rfl⟩ := wi_of (by decide) hO
      rw [ite_tf, ite_tf]
      cases hW : wi c (nI 0) (nI 60) with
      | false => exact ⟨-1, x2, g, rfl, rfl, R0⟩
      | true =>
        obtain ⟨n, -, hn, rfl⟩ := wi_in (by decide) (by decide) hW
        obtain ⟨f1, c1, c2⟩ := copyFrom_eq (f := x2) h hk
        obtain ⟨f2, q1, q2⟩ := passWeeks_eq c2 hk (n := n) (by omega)
        obtain ⟨g', r1, r2, r3⟩ := weeksGo_eq hm hk (n := n) (by omega)
        have hg2 : k < (weeks true A n).1 0 0 := by rw [weeks_00]; exact hg
        refine ⟨nI (sh (weeks true A n).1 k o), f2, g', ?_, ?_, Rel_Keep R0 r3⟩
        · rw [if_neg (by decide), c1]
          simp only [Option.bind_some]
          rw [q1]
          simp only [Option.bind_some]
          rw [held_eq q2 (okF_weeks hk n) hg2 (by omega)]
          rfl
        · rw [if_neg (by decide), r1]
          simp only [Option.bind_some]
          rw [shareOn_eq r2 (by decide) (by omega) (by omega)]
          rfl
theorem op_eggs (R : Rel x0 x1 x3 x4 x5 x6 x8 s0 s1 s2 s3 g) (x2 : Mem) (a b : Int32) : ∃ r x2' g', p_X6_eggs x0 x1 x2 a b = some (r, x2') ∧ p_X7_eggs g a b = some (r, g') ∧ Rel x0 x1 x3 x4 x5 x6 x8 s0 s1 s2 s3 g' := by
  have R0 := R
  obtain ⟨A, h, hk, hm, hR⟩ := R
  unfold p_X6_eggs p_X7_eggs
  rw [isOwner_eq, isWithin_eq, isOwnerM_eq, in_c0 60 (by decide)]
  simp only [Option.bind_some, bI_0]
  cases hO : wi a (nI 0) (nI 4) with
  | false => exact ⟨-1, x2, g, rfl, rfl, R0⟩
  | true =>
    obtain ⟨o, ho, rfl⟩ := wi_of (by decide) hO
    rw [ite_tf, ite_tf]
    cases hW : wi b (nI 0) (nI 60) with
    | false => exact ⟨-1, x2, g, rfl, rfl, R0⟩
    | true =>
      obtain ⟨n, -, hn, rfl⟩ := wi_in (by decide) (by decide) hW
      obtain ⟨f1, c1, c2⟩ := copyFrom_eq (f := x2) h hk
      obtain ⟨f2, q1, q2⟩ := passWeeks_eq c2 hk (n := n) (by omega)
      obtain ⟨g', r1, r2, r3⟩ := weeksGo_eq hm hk (n := n) (by omega)
      refine ⟨nI ((weeks true A n).1 6 o), f2, g', ?_, ?_, Rel_Keep R0 r3⟩
      · rw [if_neg (by decide), c1]
        simp only [Option.bind_some]
        rw [q1]
        simp only [Option.bind_some]
        rw [gd_t (inb_nI (by omega) (by decide)), nI_clamp (by omega), (q2.2.2.2.1 o (by omega)).2]
      · rw [if_neg (by decide), r1]
        simp only [Option.bind_some]
        rw [nI_add, gd_t (inb_nI (by omega) (by decide)), nI_clamp (by omega), show 254 + o = 240 + 14 + o from rfl, MS_egg r2 (by omega)]
theorem op_bare (R : Rel x0 x1 x3 x4 x5 x6 x8 s0 s1 s2 s3 g) (x2 : Mem) (a b : Int32) : ∃ r x2' g', p_X6_bare x0 x1 x2 a b = some (r, x2') ∧ p_X7_bare g a b = some (r, g') ∧ Rel x0 x1 x3 x4 x5 x6 x8 s0 s1 s2 s3 g' := by
  have R0 := R
  obtain ⟨A, h, hk, hm, hR⟩ := R
  have h3 := hk.1.1
  unfold p_X6_bare p_X7_bare
  rw [hasGoose_eq h, isWithin_eq, isGoose_eq hm.1, in_c0 495 (by decide)]
  simp only [Option.bind_some, bI_0]
  cases hG : hasG (A 0 0) a with
  | false => exact ⟨-1, x2, g, rfl, rfl, R0⟩
  | true =>
    obtain ⟨k, hg, rfl⟩ := hasG_of (geese_lt hk) hG
    rw [ite_tf, ite_tf]
    cases hW : wi b (nI 0) (nI 495) with
    | false => exact ⟨-1, x2, g, rfl, rfl, R0⟩
    | true =>
      obtain ⟨v, -, hv, rfl⟩ := wi_in (by decide) (by decide) hW
      obtain ⟨f1, c1, c2⟩ := copyFrom_eq (f := x2) h hk
      obtain ⟨g1, t1, t2, t3⟩ := copyOn_eq (b := 240) hk hm (by decide) (by decide) (.inl (by decide))
      rw [ite_tf, ite_tf, c1, t1]
      simp only [Option.bind_some]
      obtain ⟨x, y, e1, e2, e3⟩ := lq2 (b := p_X6_bare_L37 x0 x1 (nI k) (nI v)) (c := p_X7_bare_L32 (nI k) (nI v))
        (fun i s t => s.1 = nI i ∧ t.1 = nI i ∧ enc s.2 (weeks true A i).1 ∧ MS t.2 240 (weeks true A i).1 ∧ Keep g t.2)
        (fun x y => (∃ p q, x = .inl p ∧ y = .inl q ∧ Keep g q) ∨ ∃ r p q, x = .inr (r, p) ∧ y = .inr (r, q) ∧ Keep g q) 61
        (fun i hi s t hst => by
          obtain ⟨p1, p2⟩ := s
          obtain ⟨r1, r2⟩ := t
          obtain ⟨rfl, rfl, z1, z2, z3⟩ := hst
          dsimp only at z1 z2 z3
          have hg2 : k < (weeks true A i).1 0 0 := by rw [weeks_00]; exact hg
          have okw := okF_weeks (m := true) hk i
          have l1 := feath_le okw hg2
          unfold p_X6_bare_L37 p_X7_bare_L32
          dsimp only
          rw [if_neg (fun z => by have := (nI_ltI (by decide) (by omega)).mp z; omega), if_neg (fun z => by have := (nI_ltI (by decide) (by omega)).mp z; omega), feathersOf_eq z1 okw hg2, feathersOn_eq z2 (by decide) (by omega)]
          simp only [Option.bind_some]
          by_cases hc : nI v < nI (feath (weeks true A i).1 k)
          · rw [if_pos hc, if_pos hc]
            obtain ⟨f', q1, q2⟩ := passWeek_eq z1 okw
            obtain ⟨g', u1, u2, u3⟩ := weekOn_eq (m := true) z2 okw (by decide)
            rw [q1, show nI 1 = bI true from rfl, u1]
            simp only [Option.bind_some]
            rw [show bI true = nI 1 from rfl, nI_add]
            exact .inl ⟨_, _, rfl, rfl, rfl, rfl, q2, u2, Keep_tr z3 (Fr_Keep u3 (by decide))⟩
          · rw [if_neg hc, if_neg hc]
            exact .inr ⟨_, _, rfl, rfl, .inr ⟨_, _, _, rfl, rfl, z3⟩⟩)
        (fun s t hst => by
          obtain ⟨p1, p2⟩ := s
          obtain ⟨r1, r2⟩ := t
          obtain ⟨rfl, rfl, z1, z2, z3⟩ := hst
          unfold p_X6_bare_L37 p_X7_bare_L32
          dsimp only
          rw [if_pos (by decide), if_pos (by decide)]
          exact ⟨_, _, rfl, rfl, .inl ⟨_, _, rfl, rfl, z3⟩⟩) (i := 0) (s := (nI 0, f1)) (t := (nI 0, g1)) (by omega) ⟨rfl, rfl, c2, t2, Fr_Keep t3 (by decide)⟩
      rw [e1, e2]
      rcases e3 with ⟨p, q, rfl, rfl, e4⟩ | ⟨r, p, q, rfl, rfl, e4⟩
      · exact ⟨-4, p, q, rfl, rfl, Rel_Keep R0 e4⟩
      · exact ⟨r, p, q, rfl, rfl, Rel_Keep R0 e4⟩
theorem op_turn (R : Rel x0 x1 x3 x4 x5 x6 x8 s0 s1 s2 s3 g) (x2 : Mem) (a : Int32) : ∃ r x2' g', p_X6_turn x0 x1 x2 a = some (r, x2') ∧ p_X7_turn g a = some (r, g') ∧ Rel x0 x1 x3 x4 x5 x6 x8 s0 s1 s2 s3 g' := by
  have R0 := R
  obtain ⟨A, h, hk, hm, hR⟩ := R
  have h3 := hk.1.1
  unfold p_X6_turn p_X7_turn
  rw [hasGoose_eq h, isGoose_eq hm.1]
  simp only [Option.bind_some, bI_0]
  cases hG : hasG (A 0 0) a with
  | false => exact ⟨-1, x2, g, rfl, rfl, R0⟩
  | true =>
    obtain ⟨k, hg, rfl⟩ := hasG_of (geese_lt hk) hG
    obtain ⟨f1, c1, c2⟩ := copyFrom_eq (f := x2) h hk
    obtain ⟨g1, t1, t2, t3⟩ := copyOn_eq (b := 240) hk hm (by decide) (by decide) (.inl (by decide))
    rw [ite_tf, ite_tf, eggOwner_eq h hk hg, eggOn_eq hm hk (by decide) hg, c1, t1]
    simp only [Option.bind_some]
    obtain ⟨x, y, e1, e2, e3⟩ := lq2 (b := p_X6_turn_L35 x0 x1 (nI k) (eI (egg A k))) (c := p_X7_turn_L27 (nI k) (eI (egg A k)))
      (fun i s t => s.1 = nI (i + 1) ∧ t.1 = nI (i + 1) ∧ enc s.2 (weeks true A i).1 ∧ MS t.2 240 (weeks true A i).1 ∧ Keep g t.2)
      (fun x y => (∃ p q, x = .inl p ∧ y = .inl q ∧ Keep g q) ∨ ∃ r p q, x = .inr (r, p) ∧ y = .inr (r, q) ∧ Keep g q) 60
      (fun i hi s t hst => by
        obtain ⟨p1, p2⟩ := s
        obtain ⟨r1, r2⟩ := t
        obtain ⟨rfl, rfl, z1, z2, z3⟩ := hst
        dsimp only at z1 z2 z3
        have okw := okF_weeks (m := true) hk i
        have okw2 := okF_weeks (m := true) hk (i + 1)
        have hg2 : k < (weeks true A (i + 1)).1 0 0 := by rw [weeks_00]; exact hg
        obtain ⟨f', q1, q2⟩ := passWeek_eq z1 okw
        obtain ⟨g', u1, u2, u3⟩ := weekOn_eq (m := true) z2 okw (by decide)
        unfold p_X6_turn_L35 p_X7_turn_L27
        dsimp only
        rw [if_neg (fun z => by have := (nI_ltI (by decide) (by omega)).mp z; omega), if_neg (fun z => by have := (nI_ltI (by decide) (by omega)).mp z; omega), q1, show nI 1 = bI true from rfl, u1]
        simp only [Option.bind_some]
        rw [show bI true = nI 1 from rfl, nI_add, eggOwner_eq (A := (weeks true A (i + 1)).1) q2 okw2 hg2, eggOn_eq (A := (weeks true A (i + 1)).1) u2 okw2 (by decide) hg2]
        simp only [Option.bind_some]
        by_cases hc : eI (egg (weeks true A (i + 1)).1 k) = eI (egg A k)
        · rw [if_pos hc, if_pos hc]
          exact .inl ⟨_, _, rfl, rfl, rfl, rfl, q2, u2, Keep_tr z3 (Fr_Keep u3 (by decide))⟩
        · rw [if_neg hc, if_neg hc]
          exact .inr ⟨_, _, rfl, rfl, .inr ⟨_, _, _, rfl, rfl, Keep_tr z3 (Fr_Keep u3 (by decide))⟩⟩)
      (fun s t hst => by
        obtain ⟨p1, p2⟩ := s
        obtain ⟨r1, r2⟩ := t
        obtain ⟨rfl, rfl, z1, z2, z3⟩ := hst
        unfold p_X6_turn_L35 p_X7_turn_L27
        dsimp only
        rw [if_pos (by decide), if_pos (by decide)]
        exact ⟨_, _, rfl, rfl, .inl ⟨_, _, rfl, rfl, z3⟩⟩) (i := 0) (s := (nI 1, f1)) (t := (nI 1, g1)) (by omega) ⟨rfl, rfl, c2, t2, Fr_Keep t3 (by decide)⟩
    rw [e1, e2]
    rcases e3 with ⟨p, q, rfl, rfl, e4⟩ | ⟨r, p, q, rfl, rfl, e4⟩
    · exact ⟨-4, p, q, rfl, rfl, Rel_Keep R0 e4⟩
    · exact ⟨r, p, q, rfl, rfl, Rel_Keep R0 e4⟩
/-- who is worth most among the first ones -/
def wst (A : Fk) : Nat → Nat
  | 0 => 0
  | k + 1 => if worth A (k + 1) ≤ worth A (wst A k) then wst A k else k + 1
theorem wst_le (A : Fk) : ∀ k, wst A k ≤ k
  | 0 => Nat.le_refl 0
  | k + 1 => by
    have := wst_le A k
    unfold wst
    split <;> omega
theorem worth_le {A : Fk} (hk : okF A) {o : Nat} (ho : o < 5) : worth A o ≤ 3672 := by
  have h3 := hk.1.1
  have m1 := hk.2.2.2.1 o ho
  have h2 : sumN (fun g => sh A g o * A 3 g) (A 0 0) ≤ A 0 0 * 891 := sumN_le (m := 891) (A 0 0) (fun g hg => by
    have e1 := sh_le hk hg ho
    have e2 := (hk.2.1 g hg).2.2.2
    exact Nat.mul_le_mul e1 e2)
  have h4 : A 0 0 * 891 ≤ 3 * 891 := Nat.mul_le_mul_right 891 h3
  unfold worth
  omega
theorem rich_c {x1 x2 : Mem} {B : Fk} (h : enc x2 B) (hk : okF B) (b : Int32) : lp (p_X6_rich_L46 x0 x1 x2 b) (nI 0, nI 1) = some (nI (wst B 4)) := by
  refine lp_for (fun i => (nI (wst B i), nI (i + 1))) 4 (fun i hi => ?_) ?_
  · have hb := wst_le B i
    have l1 := worth_le hk (o := i + 1) (by omega)
    have l2 := worth_le hk (o := wst B i) (by omega)
    unfold p_X6_rich_L46
    dsimp only
    rw [if_neg (nI_ge (a := i + 1) (b := 5) (by omega) (by decide)), worth_eq h hk (by omega), worth_eq h hk (by omega)]
    simp only [Option.bind_some]
    by_cases hc : worth B (i + 1) ≤ worth B (wst B i)
    · rw [if_pos ((nI_leI (by omega) (by omega)).mpr hc), nI_add]
      simp only [wst, if_pos hc]
    · rw [if_neg (fun z => hc ((nI_leI (by omega) (by omega)).mp z)), nI_add]
      simp only [wst, if_neg hc]
  · unfold p_X6_rich_L46
    dsimp only
    rw [if_pos (Int32.le_refl _)]
theorem rich_m {B : Fk} (h : MS g 240 B) (hk : okF B) (b : Int32) : lp (p_X7_rich_L34 g b) (nI 0, nI 1) = some (nI (wst B 4)) := by
  refine lp_for (fun i => (nI (wst B i), nI (i + 1))) 4 (fun i hi => ?_) ?_
  · have hb := wst_le B i
    have l1 := worth_le hk (o := i + 1) (by omega)
    have l2 := worth_le hk (o := wst B i) (by omega)
    unfold p_X7_rich_L34
    dsimp only
    rw [if_neg (nI_ge (a := i + 1) (b := 5) (by omega) (by decide)), worthOn_eq h hk (by decide) (by omega), worthOn_eq h hk (by decide) (by omega)]
    simp only [Option.bind_some]
    by_cases hc : worth B (i + 1) ≤ worth B (wst B i)
    · rw [if_pos ((nI_leI (by omega) (by omega)).mpr hc), nI_add]
      simp only [wst, if_pos hc]
    · rw [if_neg (fun z => hc ((nI_leI (by omega) (by omega)).mp z)), nI_add]
      simp only [wst, if_neg hc]
  · unfold p_X7_rich_L34
    dsimp only
    rw [if_pos (Int32.le_refl _)]
theorem op_rich (R : Rel x0 x1 x3 x4 x5 x6 x8 s0 s1 s2 s3 g) (x2 : Mem) (a b : Int32) : ∃ r x2' g', p_X6_rich x0 x1 x2 a b = some (r, x2') ∧ p_X7_rich g a b = some (r, g') ∧ Rel x0 x1 x3 x4 x5 x6 x8 s0 s1 s2 s3 g' := by
  have R0 := R
  obtain ⟨A, h, hk, hm, hR⟩ := R
  unfold p_X6_rich p_X7_rich
  rw [isWithin_eq, isWithin_eq, in_c0 60 (by decide), in_c01]
  simp only [Option.bind_some, bI_0]
  cases hO : wi a (nI 0) (nI 60) with
  | false => exact ⟨-1, x2, g, rfl, rfl, R0⟩
  | true =>
    obtain ⟨n, -, hn, rfl⟩ := wi_in (by decide) (by decide) hO
    rw [ite_tf, ite_tf]
    cases hW : wi b (nI 0) (nI 1) with
    | false => exact ⟨-1, x2, g, rfl, rfl, R0⟩
    | true =>
      obtain ⟨f1, c1, c2⟩ := copyFrom_eq (f := x2) h hk
      obtain ⟨f2, q1, q2⟩ := passWeeks_eq c2 hk (n := n) (by omega)
      obtain ⟨g', r1, r2, r3⟩ := weeksGo_eq hm hk (n := n) (by omega)
      have okw := okF_weeks (m := true) hk n
      have hb := wst_le (weeks true A n).1 4
      rw [ite_tf, ite_tf, c1, r1]
      simp only [Option.bind_some]
      rw [q1, rich_m r2 okw]
      simp only [Option.bind_some]
      rw [rich_c q2 okw]
      simp only [Option.bind_some]
      by_cases hb0 : b = 0
      · rw [if_pos hb0, if_pos hb0]
        exact ⟨_, f2, g', rfl, rfl, Rel_Keep R0 r3⟩
      · rw [if_neg hb0, if_neg hb0, worth_eq q2 okw (by omega), worthOn_eq r2 okw (by decide) (by omega)]
        exact ⟨_, f2, g', rfl, rfl, Rel_Keep R0 r3⟩
end OPS5

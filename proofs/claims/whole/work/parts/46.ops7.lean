/-! ===== the calls, one by one: what is best, votes ===== -/
section OPS7
variable {x0 x1 x2 x3 x4 x5 x6 x7 x8 s0 s1 s2 s3 g : Mem} {A : Fk}
theorem op_leave (R : Rel x0 x1 x3 x4 x5 x6 x8 s0 s1 s2 s3 g) (x2 : Mem) (a b : Int32) : ∃ r x2' g', p_X6_leave x0 x1 x2 a b = some (r, x2') ∧ p_X7_leave g a b = some (r, g') ∧ Rel x0 x1 x3 x4 x5 x6 x8 s0 s1 s2 s3 g' := by
  have R0 := R
  obtain ⟨A, h, hk, hm, hR⟩ := R
  have h6 := hk.1.2
  unfold p_X6_leave p_X7_leave
  rw [isOwner_eq, isOwnerM_eq, isWithin_eq, in_c01]
  simp only [Option.bind_some, bI_0]
  cases hO : wi a (nI 0) (nI 4) with
  | false => exact ⟨-1, x2, g, rfl, rfl, R0⟩
  | true =>
    obtain ⟨o, ho, rfl⟩ := wi_of (by decide) hO
    rw [ite_tf, ite_tf]
    cases hW : wi b (nI 0) (nI 1) with
    | false => exact ⟨-1, x2, g, rfl, rfl, R0⟩
    | true =>
      have hw : ∀ (f : Mem) (w : Int32), ∃ f', p_X6_worthByPlanWithout x0 x1 f w (nI o) = some (nI (worth (planTo A w (A 0 2)) o), f') := fun f w => by
        obtain ⟨f1, c1, c2⟩ := copyFrom_eq (f := f) h hk
        obtain ⟨f2, d1, d2, d3⟩ := followPlanWithout_eq c2 hk w
        refine ⟨f2, ?_⟩
        unfold p_X6_worthByPlanWithout
        rw [c1]
        simp only [Option.bind_some]
        rw [d1]
        simp only [Option.bind_some]
        rw [worth_eq d2 d3 (by omega)]
        rfl
      obtain ⟨f1, e1⟩ := hw x2 (-4)
      obtain ⟨g1, u1, u2, u3, -⟩ := planGoes_eq hm hk (-4)
      rw [ite_tf, ite_tf, e1, u1]
      simp only [Option.bind_some]
      rw [worthOn_eq u2 (okF_planTo hk _ _) (by decide) (by omega)]
      simp only [Option.bind_some]
      obtain ⟨x, y, z1, z2, z3⟩ := lq2 (b := p_X6_leave_L33 x0 x1 (nI o) b) (c := p_X7_leave_L41 (nI o) b)
        (fun i s t => s.1 = t.1 ∧ s.2.1 = t.2.1 ∧ s.2.2.1 = nI i ∧ t.2.2.1 = nI i ∧ Keep g t.2.2.2)
        (fun x y => x.1 = y.1 ∧ x.2.1 = y.2.1 ∧ Keep g y.2.2) (A 0 2)
        (fun i hi s t hst => by
          obtain ⟨p1, p2, p3, p4⟩ := s
          obtain ⟨r1, r2, r3, r4⟩ := t
          obtain ⟨rfl, rfl, rfl, rfl, k1⟩ := hst
          dsimp only at k1
          have m0 := MS_Keep hk hm k1
          have e59 : (nI 59).toNatClampNeg = 59 := by decide
          obtain ⟨f2, e2⟩ := hw p4 (nI i)
          obtain ⟨g2, v1, v2, v3, -⟩ := planGoes_eq m0 hk (nI i)
          unfold p_X6_leave_L33 p_X7_leave_L41
          dsimp only
          rw [h.1.2.2, gd_t (by decide), e59, MZ_many m0, if_neg (nI_ge hi (by omega)), if_neg (nI_ge hi (by omega)), e2, v1]
          simp only [Option.bind_some]
          rw [worthOn_eq v2 (okF_planTo hk _ _) (by decide) (by omega)]
          simp only [Option.bind_some]
          unfold p_X7_leave_B82
          by_cases hc : nI (worth (planTo A (nI i) (A 0 2)) o) ≤ p1
          · rw [if_pos hc, if_pos hc, if_pos hc, nI_add]
            exact .inl ⟨_, _, rfl, rfl, rfl, rfl, rfl, rfl, Keep_tr k1 v3⟩
          · rw [if_neg hc, if_neg hc, if_neg hc, nI_add]
            exact .inl ⟨_, _, rfl, rfl, rfl, rfl, rfl, rfl, Keep_tr k1 v3⟩)
        (fun s t hst => by
          obtain ⟨p1, p2, p3, p4⟩ := s
          obtain ⟨r1, r2, r3, r4⟩ := t
          obtain ⟨rfl, rfl, rfl, rfl, k1⟩ := hst
          dsimp only at k1
          have m0 := MS_Keep hk hm k1
          have e59 : (nI 59).toNatClampNeg = 59 := by decide
          unfold p_X6_leave_L33 p_X7_leave_L41
          dsimp only
          rw [h.1.2.2, gd_t (by decide), e59, MZ_many m0, if_pos (Int32.le_refl _), if_pos (Int32.le_refl _)]
          exact ⟨_, _, rfl, rfl, rfl, rfl, k1⟩) (i := 0) (s := (nI (worth (planTo A (-4) (A 0 2)) o), -4, nI 0, f1)) (t := (nI (worth (planTo A (-4) (A 0 2)) o), -4, nI 0, g1)) (by omega) ⟨rfl, rfl, rfl, rfl, u3⟩
      rw [z1, z2]
      simp only [Option.bind_some]
      obtain ⟨p1, p2, p3⟩ := x
      obtain ⟨r1, r2, r3⟩ := y
      obtain ⟨rfl, rfl, k1⟩ := z3
      dsimp only at k1 ⊢
      by_cases hb : b = 0
      · rw [if_pos hb]
        by_cases h4 : p2 = -4
        · rw [if_pos h4]; exact ⟨_, _, _, rfl, rfl, Rel_Keep R0 k1⟩
        · rw [if_neg h4, if_pos hb]; exact ⟨_, _, _, rfl, rfl, Rel_Keep R0 k1⟩
      · rw [if_neg hb]
        by_cases h4 : p2 = -4
        · rw [if_pos h4, if_pos h4]; exact ⟨_, _, _, rfl, rfl, Rel_Keep R0 k1⟩
        · rw [if_neg h4, if_neg h4, if_neg hb]; exact ⟨_, _, _, rfl, rfl, Rel_Keep R0 k1⟩
theorem bst_congr {A B : Fk} {k : Nat} (h : ∀ o, sh A k o = sh B k o) : ∀ n, bst A k n = bst B k n
  | 0 => rfl
  | n + 1 => by
    have ih := bst_congr h n
    unfold bst
    rw [ih, h, h]
theorem egg_congr {A B : Fk} {k : Nat} (h : ∀ o, sh A k o = sh B k o) (h2 : A 2 k = B 2 k) : egg A k = egg B k := by
  unfold egg
  rw [bst_congr h, h, h2, h]
theorem egg_exch (A : Fk) (b s k n : Nat) : egg (exch A b s k n) k = egg (moveF A b s k n) k :=
  egg_congr (fun o => by unfold sh exch; exact payF_ne (by decide)) (by unfold exch; exact payF_ne (by decide))
theorem moveF_back {A : Fk} {b s k n : Nat} (hb : b < 5) (hs : s < 5) (hbs : b ≠ s) (hn : n ≤ sh A k s) : moveF (moveF A b s k n) s b k n = A := by
  have e1 : moveF A b s k n 4 (k * 5 + b) = A 4 (k * 5 + b) + n := by
    unfold moveF tkF
    rw [fset_at, fset_no (by omega)]
  have e2 : moveF A b s k n 4 (k * 5 + s) = A 4 (k * 5 + s) - n := by
    unfold moveF tkF
    rw [fset_no (by omega), fset_at]
  have e3 : ∀ i j, i ≠ 4 ∨ (j ≠ k * 5 + b ∧ j ≠ k * 5 + s) → moveF A b s k n i j = A i j := fun i j h => by
    unfold moveF tkF fset
    rw [if_neg (by omega), if_neg (by omega)]
  unfold sh at hn
  generalize hM : moveF A b s k n = M at e1 e2 e3
  funext i j
  unfold moveF tkF
  by_cases c1 : i = 4 ∧ j = k * 5 + s
  · obtain ⟨rfl, rfl⟩ := c1
    rw [fset_at, fset_no (by omega), e2]
    omega
  · by_cases c2 : i = 4 ∧ j = k * 5 + b
    · obtain ⟨rfl, rfl⟩ := c2
      rw [fset_no (by omega), fset_at, e1]
      omega
    · unfold fset
      rw [if_neg c1, if_neg c2, e3 i j (by omega)]
theorem wouldGetEgg_eq {f : Mem} (h : enc f A) (hk : okF A) {b s k n : Nat} (hb : b < 5) (hs : s < 5) (hbs : b ≠ s) (hg : k < A 0 0) (hc : canP A b s k n = true) : ∃ f', p_X0_wouldGetEgg f (nI b) (nI s) (nI k) (nI n) = some (bI (decide (egg (moveF A b s k n) k = b)), f') ∧ enc f' A := by
  have hc2 := hc
  unfold canP at hc2
  simp only [Bool.and_eq_true, decide_eq_true_eq] at hc2
  obtain ⟨c1, c2⟩ := hc2
  obtain ⟨f1, q1, q2⟩ := moveFeathers_eq h hk hb hs hg c1
  have hk2 := okF_moveF hk hb hs hbs hg hc
  have hg2 : k < moveF A b s k n 0 0 := by rw [moveF_ne (by decide)]; exact hg
  obtain ⟨f2, r1, r2⟩ := moveFeathers_eq q2 hk2 hs hb hg2 (n := n) (by unfold moveF sh; rw [fset_at]; omega)
  rw [moveF_back hb hs hbs c1] at r2
  refine ⟨f2, ?_, r2⟩
  unfold p_X0_wouldGetEgg
  rw [q1]
  simp only [Option.bind_some]
  rw [eggOwner_eq q2 hk2 hg2]
  simp only [Option.bind_some]
  unfold p_X0_wouldGetEgg_B23
  rw [r1]
  simp only [Option.bind_some]
  have he := egg_le hk2 hg2
  by_cases hd : egg (moveF A b s k n) k = b
  · rw [if_pos ((eI_eq he hb).mpr hd), decide_eq_true hd]; rfl
  · rw [if_neg (fun z => hd ((eI_eq he hb).mp z)), decide_eq_false hd]; rfl
theorem op_need (R : Rel x0 x1 x3 x4 x5 x6 x8 s0 s1 s2 s3 g) (x2 : Mem) (a b c : Int32) : ∃ r x2' g', p_X6_need x0 x1 x2 a b c = some (r, x2') ∧ p_X7_need g a b c = some (r, g') ∧ Rel x0 x1 x3 x4 x5 x6 x8 s0 s1 s2 s3 g' := by
  have R0 := R
  obtain ⟨A, h, hk, hm, hR⟩ := R
  have h3 := hk.1.1
  unfold p_X6_need p_X7_need
  rw [isOwner_eq, isOwnerM_eq, hasGoose_eq h, isGoose_eq hm.1, isWithin_eq, in_c01]
  simp only [Option.bind_some, bI_0]
  cases hO : wi a (nI 0) (nI 4) with
  | false => exact ⟨-1, x2, g, rfl, rfl, R0⟩
  | true =>
    obtain ⟨o, ho, rfl⟩ := wi_of (by decide) hO
    rw [ite_tf, ite_tf]
    cases hG : hasG (A 0 0) b with
    | false => exact ⟨-1, x2, g, rfl, rfl, R0⟩
    | true =>
      obtain ⟨k, hg, rfl⟩ := hasG_of (geese_lt hk) hG
      rw [ite_tf, ite_tf]
      cases hW : wi c (nI 0) (nI 1) with
      | false => exact ⟨-1, x2, g, rfl, rfl, R0⟩
      | true =>
        rw [ite_tf, ite_tf, eggOwner_eq h hk hg, eggOn_eq hm hk (by decide) hg]
        simp only [Option.bind_some]
        by_cases he : eI (egg A k) = nI o
        · rw [if_pos he, if_pos he]
          exact ⟨-2, x2, g, rfl, rfl, R0⟩
        · obtain ⟨f1, c1, c2⟩ := copyFrom_eq (f := x2) h hk
          rw [if_neg he, if_neg he, c1]
          simp only [Option.bind_some]
          have inner : ∀ n, 1 ≤ n → n ≤ 9 → ∀ (f G : Mem), enc f A → Keep g G → ∃ x y, lp (p_X6_need_L68 x0 x1 (nI o) (nI k) c (nI n)) (nI 0, f) = some x ∧ lp (p_X7_need_L53 (nI o) (nI k) c (nI n)) (nI 0, G) = some y ∧ ((∃ p q, x = .inl p ∧ y = .inl q ∧ enc p A ∧ Keep g q) ∨ ∃ r p q, x = .inr (.inr (.inr (r, p))) ∧ y = .inr (.inr (.inr (r, q))) ∧ Keep g q) := by
            intro n hn1 hn9 f G hf hG2
            refine lq2 (b := p_X6_need_L68 x0 x1 (nI o) (nI k) c (nI n)) (c := p_X7_need_L53 (nI o) (nI k) c (nI n))
              (fun i s t => s.1 = nI i ∧ t.1 = nI i ∧ enc s.2 A ∧ Keep g t.2)
              (fun x y => (∃ p q, x = .inl p ∧ y = .inl q ∧ enc p A ∧ Keep g q) ∨ ∃ r p q, x = .inr (.inr (.inr (r, p))) ∧ y = .inr (.inr (.inr (r, q))) ∧ Keep g q) 5
              (fun i hi s t hst => ?_) (fun s t hst => ?_) (i := 0) (by omega) ⟨rfl, rfl, hf, hG2⟩
            · obtain ⟨p1, p2⟩ := s
              obtain ⟨r1, r2⟩ := t
              obtain ⟨rfl, rfl, z1, z2⟩ := hst
              dsimp only at z1 z2
              have m0 := MS_Keep hk hm z2
              obtain ⟨g1, t1, t2, t3⟩ := copyOn_eq (b := 240) hk m0 (by decide) (by decide) (.inl (by decide))
              have k1 := Keep_tr z2 (Fr_Keep t3 (by decide))
              unfold p_X6_need_L68 p_X7_need_L53
              dsimp only
              rw [if_neg (nI_ge hi (by decide)), if_neg (nI_ge hi (by decide)), t1]
              simp only [Option.bind_some, nI_add]
              by_cases hio : i = o
              · rw [if_pos (by rw [hio]), if_pos (by rw [hio])]
                exact .inl ⟨_, _, rfl, rfl, rfl, rfl, z1, k1⟩
              · have hio2 : ¬ nI i = nI o := fun z => hio ((nI_eq (by omega) (by omega)).mp z)
                obtain ⟨g2, u1, u2, u3⟩ := buysOn_eq t2 hk (by decide) (show o < 5 by omega) hi hg (show n < 1000 by omega)
                have k2 := Keep_tr k1 (Fr_Keep u3 (by decide))
                rw [if_neg hio2, if_neg hio2, canTrade_eq z1 hk (by omega) hi hg (by omega), u1]
                simp only [Option.bind_some, bI_0]
                cases hc : canT A o i k n with
                | false =>
                  rw [if_pos rfl, if_pos rfl]
                  exact .inl ⟨_, _, rfl, rfl, rfl, rfl, z1, k2⟩
                | true =>
                  rw [hc, if_pos rfl] at u2
                  have hcP : canP A o i k n = true := by
                    unfold canT at hc
                    simp only [Bool.and_eq_true] at hc
                    exact hc.1.1
                  have oke := okF_exch hk (show o < 5 by omega) hi (fun z => hio z.symm) hg hc
                  have hge : k < exch A o i k n 0 0 := by rw [exch_45 (by decide) (by decide)]; exact hg
                  have hle := egg_le oke hge
                  obtain ⟨f2, v1, v2⟩ := wouldGetEgg_eq z1 hk (show o < 5 by omega) hi (fun z => hio z.symm) hg hcP
                  rw [ite_tf, ite_tf, v1, eggOn_eq u2 oke (by decide) hge]
                  simp only [Option.bind_some, bI_0]
                  by_cases hd : egg (moveF A o i k n) k = o
                  · have hd2 : eI (egg (exch A o i k n) k) = nI o := (eI_eq hle (by omega)).mpr (by rw [egg_exch]; exact hd)
                    rw [decide_eq_true hd, if_neg (by decide), if_pos hd2]
                    by_cases h0 : c = 0
                    · rw [if_pos h0, if_pos h0]
                      exact .inr ⟨_, _, rfl, rfl, .inr ⟨_, _, _, rfl, rfl, k2⟩⟩
                    · have m2 := MS_Keep hk hm k2
                      have rp := MZ_face m2 hk (show 2 < 3 by decide) hg
                      simp only [Nat.reduceMul, Nat.reduceAdd] at rp
                      rw [if_neg h0, if_neg h0, gd_t (inb_nI (by omega) (by decide)), gd_t (inb_nI (by omega) (by decide)), nI_clamp (by omega), nI_clamp (by omega), rp, (h.2.1 k hg).2.2]
                      exact .inr ⟨_, _, rfl, rfl, .inr ⟨_, _, _, rfl, rfl, k2⟩⟩
                  · have hd2 : ¬ eI (egg (exch A o i k n) k) = nI o := fun z => hd (by rw [← egg_exch]; exact (eI_eq hle (by omega)).mp z)
                    rw [decide_eq_false hd, if_pos rfl, if_neg hd2]
                    exact .inl ⟨_, _, rfl, rfl, rfl, rfl, v2, k2⟩
            · obtain ⟨p1, p2⟩ := s
              obtain ⟨r1, r2⟩ := t
              obtain ⟨rfl, rfl, z1, z2⟩ := hst
              unfold p_X6_need_L68 p_X7_need_L53
              dsimp only
              rw [if_pos (Int32.le_refl _), if_pos (Int32.le_refl _)]
              exact ⟨_, _, rfl, rfl, .inl ⟨_, _, rfl, rfl, z1, z2⟩⟩
          obtain ⟨x, y, e1, e2, e3⟩ := lq2 (b := p_X6_need_L58 x0 x1 (nI o) (nI k) c) (c := p_X7_need_L43 (nI o) (nI k) c)
            (fun i s t => s.1 = nI (i + 1) ∧ t.1 = nI (i + 1) ∧ enc s.2 A ∧ Keep g t.2)
            (fun x y => (∃ p q, x = .inl p ∧ y = .inl q ∧ Keep g q) ∨ ∃ r p q, x = .inr (r, p) ∧ y = .inr (r, q) ∧ Keep g q) 9
            (fun i hi s t hst => by
              obtain ⟨p1, p2⟩ := s
              obtain ⟨r1, r2⟩ := t
              obtain ⟨rfl, rfl, z1, z2⟩ := hst
              dsimp only at z1 z2
              obtain ⟨x, y, e1, e2, e3⟩ := inner (i + 1) (by omega) (by omega) p2 r2 z1 z2
              unfold p_X6_need_L58 p_X7_need_L43
              dsimp only
              rw [if_neg (fun z => by have := (nI_ltI (by decide) (by omega)).mp z; omega), if_neg (fun z => by have := (nI_ltI (by decide) (by omega)).mp z; omega), e1, e2]
              rcases e3 with ⟨p, q, rfl, rfl, z3, z4⟩ | ⟨r, p, q, rfl, rfl, z4⟩
              · exact .inl ⟨_, _, rfl, rfl, nI_add (i + 1) 1, nI_add (i + 1) 1, z3, z4⟩
              · exact .inr ⟨_, _, rfl, rfl, .inr ⟨_, _, _, rfl, rfl, z4⟩⟩)
            (fun s t hst => by
              obtain ⟨p1, p2⟩ := s
              obtain ⟨r1, r2⟩ := t
              obtain ⟨rfl, rfl, z1, z2⟩ := hst
              unfold p_X6_need_L58 p_X7_need_L43
              dsimp only
              rw [if_pos (by decide), if_pos (by decide)]
              exact ⟨_, _, rfl, rfl, .inl ⟨_, _, rfl, rfl, z2⟩⟩) (i := 0) (s := (nI 1, f1)) (t := (nI 1, g)) (by omega) ⟨rfl, rfl, c2, Keep_rfl g⟩
          rw [e1, e2]
          rcases e3 with ⟨p, q, rfl, rfl, e4⟩ | ⟨r, p, q, rfl, rfl, e4⟩
          · exact ⟨-4, p, q, rfl, rfl, Rel_Keep R0 e4⟩
          · exact ⟨r, p, q, rfl, rfl, Rel_Keep R0 e4⟩
end OPS7

/-! ===== the text: all lines ===== -/
section TXH
variable {t : Nat → Nat} {n : Nat}
theorem LB59 (g : Mem) (x1 : Int32) : p_X7_readLine_B59 g x1 = (Option.bind (p_X7_step g) fun f_60 => if (f_60 0 7) ≤ 0 then ((p_X7_readMore f_60 x1).bind tl) else some f_60) := rfl
theorem DI_But {f d g g' : Mem} {A : Fk} {G : Nat → Bool} {T U : Nat} (h : DI f d g A G T U) (hb : But J7 g g') : DI f d g' A G T U := by
  obtain ⟨D1, D2, D3, D4, D5, D6, D7⟩ := h
  refine ⟨D1, D2, MS_as D3 ?_ ?_, ⟨D4.1, by rw [hb.1 2 (by unfold J7; omega)]; exact D4.2.1, D4.2.2⟩, ⟨D5.1, by rw [hb.1 3 (by unfold J7; omega)]; exact D5.2.1, D5.2.2⟩, D6, by rw [hb.1 4 (by unfold J7; omega)]; exact D7⟩
  · exact hb.1 1 (by unfold J7; omega)
  · exact hb.2 2 (by decide)
/-- how a line may end, with its word -/
def LineO2 (n : Nat) (t : Nat → Nat) (p : Nat) (f g : Mem) (cls : Option (Int32 × Mem × Mem × Mem)) (mdl : Option Mem) : Prop :=
  (∃ f' d' X' g' p' A' G' T' U', cls = some (nI 1, f', d', X') ∧ mdl = some g' ∧ f' 0 0 = f 0 0 ∧ Lk f' X' g' n t p' ∧ p < p' ∧ DI f' d' g' A' G' T' U' ∧ FT g g') ∨
  (∃ f' d' X' g', cls = some (nI 0, f', d', X') ∧ mdl = some g' ∧ Fdd f' g' ∧ FT g g')
theorem B173_0 {f d X : Mem} (h : f 0 1 = 0) : p_X5_readLine_B173 f d X = some (nI 1, f, d, X) := by
  unfold p_X5_readLine_B173
  rw [if_pos h]
theorem B173_1 {f d X : Mem} (h : ¬ f 0 1 = 0) : p_X5_readLine_B173 f d X = some (nI 0, f, d, X) := by
  unfold p_X5_readLine_B173
  rw [if_neg h]
/-- behind the word of a line -/
theorem line_gen {f d X g : Mem} {p hi T U : Nat} {A : Fk} {G : Nat → Bool} {x1 : Int32} {cls : Option (Mem × Mem × Mem)} (hf : f 0 1 = nI 0) (hX : BY X n t) (hX1 : X 0 1 = nI (lE t n p)) (hE : lE t n p ≤ n) (hgt : p < lE t n p) (hg : BM g n t) (h7 : g 0 7 = nI 0) (h9 : g 0 9 = nI (lE t n p)) (D : DI f d g A G T U) (hhi : hi ≤ 99)
    (hF : ∀ f1 X2, p_X5_nextNumber f X (nI 0) (nI hi) = some (nI 0, f1, X2) → ¬ f1 0 1 = 0 → cls = some (f1, d, X2))
    (hL : ∀ g', Lk f X g' n t (lE t n p) → DI f d g' A G T U → LineOut n t (lE t n p) f g' cls ((p_X7_readMore g' x1).bind tl)) :
    LineO2 n t p f g (cls.bind fun z => p_X5_readLine_B173 z.1 z.2.1 z.2.2) (p_X7_readLine_B59 g x1) := by
  obtain ⟨g1, u1, u2, u3⟩ := step_eq hg hE h7 h9
  have L1 : Lk f X g1 n t (lE t n p) := ⟨hf, hX, hX1, hE, BM_But hg u2 (by unfold J7; omega), u3⟩
  rw [LB59, u1]
  simp only [Option.bind_some]
  by_cases k4 : lK t n (lE t n p) = 4
  · rcases num0 L1 (lo := 0) (hi := hi) (Nat.zero_le _) hhi with ⟨v, X', g', b1, b2, b3, b4, -⟩ | ⟨-, f1, X2, g2, b1, b2, b3, b4, b5⟩
    · omega
    · have e := b5 k4
      subst e
      rw [hF f1 X2 b1 (Fdd_f b4)]
      simp only [Option.bind_some]
      rw [B173_1 (Fdd_f b4), if_neg (Fdd_g b4).2]
      exact .inr ⟨f1, d, X2, g2, rfl, rfl, b4, FT_But u2⟩
  · have t7 : g1 0 7 = nI 0 := by
      rcases u3 with ⟨h, -⟩ | ⟨-, h, -⟩
      · exact absurd h k4
      · exact h
    rw [if_pos (by rw [t7]; decide)]
    rcases hL g1 L1 (DI_But D u2) with ⟨f', d', X', g', p', A', G', T', U', a1, a2, a3, a4, a5, a6, a7⟩ | ⟨f', d', X', g', a1, a2, a3, a4⟩
    · rw [a1]
      simp only [Option.bind_some]
      rw [B173_0 a4.1]
      exact .inl ⟨f', d', X', g', p', A', G', T', U', rfl, a2, a3, a4, by omega, a6, FT_tr (FT_But u2) a7⟩
    · rw [a1]
      simp only [Option.bind_some]
      rw [B173_1 (Fdd_f a3)]
      exact .inr ⟨f', d', X', g', rfl, a2, a3, FT_tr (FT_But u2) a4⟩
theorem line_both {f d X g : Mem} {p T U : Nat} {A : Fk} {G : Nat → Bool} (L : Lk f X g n t p) (D : DI f d g A G T U) (hc : R_const g) (k0 : lK t n p ≠ 0) (k4 : lK t n p ≠ 4) : LineO2 n t p f g (p_X5_readLine f d X) (p_X7_readLine g) := by
  obtain ⟨hf, hX, hp1, hp, hg, hT⟩ := L
  have h160 := hX.1
  have hkl := lK_le t n p
  have hgt := lE_gt (t := t) hp k0
  have hE := lE_le (t := t) hp
  have hS1 := lS_ge t n p
  have hS2 := lS_le (t := t) hp
  obtain ⟨X1, q1, q2, q3, q4, q5, -⟩ := nextToken_eq hX hp hp1
  rcases hT with ⟨h, -⟩ | ⟨-, t7, t9, t10, t11, -⟩
  · exact absurd h k4
  unfold p_X5_readLine p_X7_readLine
  rw [q1]
  simp only [Option.bind_some]
  rw [q5, if_neg (fun z => k0 ((nI_z (by omega)).mp z)), if_neg (fun z => k4 ((nI_eq (by omega) (by decide)).mp z))]
  have none : p_X5_lineNamed X1 = some (-4) → p_X7_nameHere g = some (-4) → LineO2 n t p f g (Option.bind (p_X5_lineNamed X1) fun r33 => if r33 = (nI 0) then (Option.bind (p_X5_readGoose f d X1 (nI 0)) fun z => p_X5_readLine_B173 z.1 z.2.1 z.2.2) else if r33 = (nI 1) then (Option.bind (p_X5_readGoose f d X1 (nI 1)) fun z => p_X5_readLine_B173 z.1 z.2.1 z.2.2) else if r33 = (nI 2) then (Option.bind (p_X5_readGoose f d X1 (nI 2)) fun z => p_X5_readLine_B173 z.1 z.2.1 z.2.2) else if r33 = (nI 3) then (Option.bind (p_X5_readGoose f d X1 (nI 3)) fun z => p_X5_readLine_B173 z.1 z.2.1 z.2.2) else if r33 = (nI 10) then (Option.bind (p_X5_readShare f d X1) fun z => p_X5_readLine_B173 z.1 z.2.1 z.2.2) else if r33 = (nI 11) then (Option.bind (p_X5_readMoney f d X1) fun z => p_X5_readLine_B173 z.1 z.2.1 z.2.2) else if r33 = (nI 12) then (Option.bind (p_X5_readTrade f d X1) fun z => p_X5_readLine_B173 z.1 z.2.1 z.2.2) else (p_X5_readLine_B164 f d X1)) (Option.bind (p_X7_nameHere g) fun r1 => Option.bind (p_X7_in ((r1).toInt64) (lN 0) (6 : Int64)) fun r11 => if r11 = 0 then (Option.bind (p_X7_fails g (nI 2)) fun f_19 => some f_19) else (if (nI 3) < r1 then (p_X7_readLine_B36 g r1) else (if (g 0 1) = (nI 3) then (p_X7_readLine_B54 g r1) else (p_X7_readLine_B36 g r1)))) := fun e1 e2 => by
    have fd : Fdd (mset 0 2 (X1 0 2) (mset 0 1 (nI 2) f)) (mset 0 8 (g 0 10) (mset 0 7 (nI 2) g)) := Fdd_new (by decide) (by decide) (by omega) q4 t10
    rw [e1, e2]
    simp only [Option.bind_some]
    rw [in_c0 6 (by decide)]
    simp only [Option.bind_some, bI_0]
    rw [if_neg (by decide), if_neg (by decide), if_neg (by decide), if_neg (by decide), if_neg (by decide), if_neg (by decide), if_neg (by decide), if_pos (by decide), fails_yes t7]
    simp only [Option.bind_some]
    unfold p_X5_readLine_B164
    rw [ref_yes hf]
    simp only [Option.bind_some]
    rw [B173_1 (Fdd_f fd)]
    exact .inr ⟨_, d, X1, _, rfl, rfl, fd, FT_But (J7_fail _ _ g)⟩
  by_cases k1 : lK t n p = 1
  · rcases names_both q2 q3 q4 (by rw [q5, k1]) hg hc t9 t10 (by rw [t11, k1]) hE.1 hE.2 with ⟨w, hw, n1, n2⟩ | ⟨n1, n2⟩
    · rw [n1, n2]
      simp only [Option.bind_some]
      rw [in_c0 6 (by decide), wi_nI (by omega) (by decide) (by decide), decide_eq_true (Nat.zero_le w), decide_eq_true (show w ≤ 6 by omega)]
      simp only [Option.bind_some, bI_0]
      rw [Bool.and_self, ite_tf]
      have gen := fun (hi : Nat) (x1 : Int32) (cls : Option (Mem × Mem × Mem)) (hhi : hi ≤ 99) hF hL => line_gen (hi := hi) (x1 := x1) (cls := cls) hf q2 q3 hE.2 (by omega) hg t7 t9 D hhi hF hL
      have g1 : g 0 1 = nI (A 0 0) := D.2.2.1.1
      have g59 : g 2 59 = nI (A 0 2) := MS_many D.2.2.1
      have d0 : d 0 0 = nI (A 0 0) := D.1.1.1
      have d2 : d 0 2 = nI (A 0 2) := D.1.1.2.2
      have hA := D.2.1.1
      have e59 : (nI 59).toNatClampNeg = 59 := by decide
      -- too many
      have fd5 : Fdd (mset 0 2 (X1 0 2) (mset 0 1 (nI 5) f)) (mset 0 8 (g 0 10) (mset 0 7 (nI 5) g)) := Fdd_new (by decide) (by decide) (by omega) q4 t10
      have B54 : ∀ x1, p_X7_readLine_B54 g x1 = some (mset 0 8 (g 0 10) (mset 0 7 (nI 5) g)) := fun x1 => by
        unfold p_X7_readLine_B54
        rw [fails_yes t7]
        simp only [Option.bind_some]
        rw [LB59, stepF fd5]
        simp only [Option.bind_some]
        rw [if_neg (Fdd_g fd5).2]
      have goose : ∀ w, w < 4 → LineO2 n t p f g (Option.bind (p_X5_readGoose f d X1 (nI w)) fun z => p_X5_readLine_B173 z.1 z.2.1 z.2.2) (if (nI 3) < nI w then (p_X7_readLine_B36 g (nI w)) else (if (g 0 1) = (nI 3) then (p_X7_readLine_B54 g (nI w)) else (p_X7_readLine_B36 g (nI w)))) := fun w hw => by
        rw [if_neg (fun z => by have := (nI_ltI (by decide) (by omega)).mp z; omega), g1]
        unfold p_X5_readGoose
        rw [d0]
        by_cases hm : A 0 0 < 3
        · rw [if_pos ((nI_ltI (by omega) (by decide)).mpr hm), if_neg (fun z => by have := (nI_eq (by omega) (by decide)).mp z; omega)]
          unfold p_X7_readLine_B36
          rw [if_neg (fun z => by have := (nI_eq (by omega) (by decide)).mp z; omega)]
          exact gen 4 (nI w) _ (by decide) (fun f1 X2 h1 h2 => goose_no h1 h2) (fun g' L' D' => goose_line L' D' hm hw)
        · rw [if_neg (fun z => hm ((nI_ltI (by omega) (by decide)).mp z)), if_pos (by rw [show A 0 0 = 3 by omega]), B54, ref_yes hf]
          simp only [Option.bind_some]
          rw [goose_no (num_no (Fdd_f fd5) X1 _ _) (Fdd_f fd5)]
          simp only [Option.bind_some]
          rw [B173_1 (Fdd_f fd5)]
          exact .inr ⟨_, d, X1, _, rfl, rfl, fd5, FT_But (J7_fail _ _ g)⟩
      rcases (show w < 4 ∨ w = 4 ∨ w = 5 ∨ w = 6 by omega) with hw4 | rfl | rfl | rfl
      · have ew : wdI w = nI w := by unfold wdI; rw [if_pos hw4]
        rw [ew]
        rcases (show w = 0 ∨ w = 1 ∨ w = 2 ∨ w = 3 by omega) with rfl | rfl | rfl | rfl
        · rw [if_pos rfl]; exact goose 0 (by decide)
        · rw [if_neg (by decide), if_pos rfl]; exact goose 1 (by decide)
        · rw [if_neg (by decide), if_neg (by decide), if_pos rfl]; exact goose 2 (by decide)
        · rw [if_neg (by decide), if_neg (by decide), if_neg (by decide), if_pos rfl]; exact goose 3 (by decide)
      · rw [show wdI 4 = nI 10 from rfl, if_neg (by decide), if_neg (by decide), if_neg (by decide), if_neg (by decide), if_pos rfl, if_pos (by decide)]
        unfold p_X7_readLine_B36
        rw [if_neg (by decide)]
        exact gen 2 (nI 4) _ (by decide) (fun f1 X2 h1 h2 => share_no h1 h2) (fun g' L' D' => share_line L' D')
      · rw [show wdI 5 = nI 11 from rfl, if_neg (by decide), if_neg (by decide), if_neg (by decide), if_neg (by decide), if_neg (by decide), if_pos rfl, if_pos (by decide)]
        unfold p_X7_readLine_B36
        rw [if_neg (by decide)]
        exact gen 4 (nI 5) _ (by decide) (fun f1 X2 h1 h2 => money_no h1 h2) (fun g' L' D' => money_line L' D')
      · rw [show wdI 6 = nI 12 from rfl, if_neg (by decide), if_neg (by decide), if_neg (by decide), if_neg (by decide), if_neg (by decide), if_neg (by decide), if_pos rfl, if_pos (by decide)]
        unfold p_X7_readLine_B36 p_X5_readTrade
        rw [if_pos rfl, gd_t (by decide), e59, g59, d2]
        by_cases hm : A 0 2 < 6
        · rw [if_pos ((nI_ltI (by omega) (by decide)).mpr hm), if_neg (fun z => by have := (nI_eq (by omega) (by decide)).mp z; omega)]
          exact gen 4 (nI 6) _ (by decide) (fun f1 X2 h1 h2 => trade_no h1 h2) (fun g' L' D' => trade_line L' D' hm)
        · rw [if_neg (fun z => hm ((nI_ltI (by omega) (by decide)).mp z)), if_pos (by rw [show A 0 2 = 6 by omega]), B54, ref_yes hf]
          simp only [Option.bind_some]
          rw [trade_no (num_no (Fdd_f fd5) X1 _ _) (Fdd_f fd5)]
          simp only [Option.bind_some]
          rw [B173_1 (Fdd_f fd5)]
          exact .inr ⟨_, d, X1, _, rfl, rfl, fd5, FT_But (J7_fail _ _ g)⟩
    · exact none n1 n2
  · exact none (lineNamed_no (by rw [q5]; exact fun z => k1 ((nI_eq (by omega) (by decide)).mp z))) (nameHere_no (by rw [t11]; exact fun z => k1 ((nI_eq (by omega) (by decide)).mp z)))
theorem FT_const {g g' : Mem} (h : FT g g') (hc : R_const g) : R_const g' := by
  unfold R_const
  rw [h.2 4 (by decide) (by decide), h.2 5 (by decide) (by decide)]
  exact hc
/-- all lines -/
theorem loop_both : ∀ k p f d X g l A G T U, n - p ≤ k → Lk f X g n t p → DI f d g A G T U → R_const g → f 0 0 = nI l → l ≤ p → ∃ f' d' X' x g', lp p_X5_readAll_L41 (f, d, X) = some (f', d', X') ∧ lp p_X7_text_L57 (nI l, g) = some (x, g') ∧ FT g g' ∧ (Fdd f' g' ∨ (f' 0 1 = nI 0 ∧ f' 0 0 = x ∧ X' 0 0 = nI n ∧ g' 0 7 = nI 0 ∧ g' 0 10 = nI n ∧ ∃ A G T U, DI f' d' g' A G T U))
  | k, p, f, d, X, g, l, A, G, T, U, hk, L, D, hc, hl, hlp => by
    have L0 := L
    obtain ⟨hf, hX, hp1, hp, hg, hT⟩ := L
    have h160 := hX.1
    have hS1 := lS_ge t n p
    have hS2 := lS_le (t := t) hp
    obtain ⟨X1, q1, q2, q3, q4, q5, -⟩ := nextToken_eq hX hp hp1
    have hl160 : ¬ (nI 160 < f 0 0) := by rw [hl]; exact fun z => by have := (nI_ltI (by decide) (by omega)).mp z; omega
    by_cases k4 : lK t n p = 4
    · rcases hT with ⟨-, t7, t8⟩ | ⟨h, -⟩
      · have fd : Fdd (mset 0 2 (X1 0 2) (mset 0 1 (nI 1) f)) g := ⟨1, lS t n p, by decide, by decide, by rw [mset_no (by decide), mset_s], by rw [mset_s, q4], t7, t8, by omega⟩
        refine ⟨_, d, X1, nI l, g, lp_r (x := (mset 0 2 (X1 0 2) (mset 0 1 (nI 1) f), d, X1)) ?_, lp_r ?_, FT_rfl g, .inl fd⟩
        · unfold p_X5_readAll_L41 p_X5_readLine
          dsimp only
          rw [if_neg hl160, q1]
          simp only [Option.bind_some]
          rw [q5, k4, if_neg (by decide), if_pos rfl, ref_yes hf]
          simp only [Option.bind_some]
          rw [if_pos (show nI 0 = 0 from rfl)]
        · unfold p_X7_text_L57
          dsimp only
          rw [if_neg (by rw [t7]; decide)]
      · exact absurd k4 h
    · rcases hT with ⟨h, -⟩ | ⟨-, t7, t9, t10, t11, -⟩
      · exact absurd h k4
      by_cases k0 : lK t n p = 0
      · have hSn : lS t n p = n := by
          unfold lK at k0
          by_cases c0 : n ≤ lS t n p
          · omega
          · rw [if_neg c0] at k0
            repeat' split at k0
            all_goals omega
        refine ⟨f, d, X1, nI l, g, lp_r ?_, lp_r ?_, FT_rfl g, .inr ⟨hf, hl, q2.2.1, t7, by rw [t10, hSn], A, G, T, U, D⟩⟩
        · unfold p_X5_readAll_L41 p_X5_readLine
          dsimp only
          rw [if_neg hl160, q1]
          simp only [Option.bind_some]
          rw [q5, k0, if_pos (show nI 0 = 0 from rfl)]
          simp only [Option.bind_some]
          rw [if_pos (show nI 0 = 0 from rfl)]
        · unfold p_X7_text_L57
          dsimp only
          rw [if_pos (show g 0 7 = 0 from t7), t11, k0, if_pos (show nI 0 = 0 from rfl)]
      · have hkl := lK_le t n p
        have t110 : ¬ g 0 11 = 0 := by rw [t11]; exact fun z => k0 ((nI_z (by omega)).mp z)
        rcases line_both L0 D hc k0 k4 with ⟨f', d', X', g', p', A', G', T', U', a1, a2, a3, a4, a5, a6, a7⟩ | ⟨f', d', X', g', a1, a2, a3, a4⟩
        · have hp' := a4.2.2.2.1
          cases k with
          | zero => omega
          | succ k =>
            have D' : DI (mset 0 0 (nI (l + 1)) f') d' g' A' G' T' U' := ⟨a6.1, a6.2.1, a6.2.2.1, ⟨by rw [mset_no (by decide)]; exact a6.2.2.2.1.1, a6.2.2.2.1.2⟩, ⟨by rw [mset_no (by decide)]; exact a6.2.2.2.2.1.1, a6.2.2.2.2.1.2⟩, by rw [mset_no (by decide)]; exact a6.2.2.2.2.2.1, a6.2.2.2.2.2.2⟩
            obtain ⟨f2, d2, X2, x, g2, u1, u2, u3, u4⟩ := loop_both k p' (mset 0 0 (nI (l + 1)) f') d' X' g' (l + 1) A' G' T' U' (by omega) (Lk_f a4 (mset_no (by decide))) D' (FT_const a7 hc) mset_s (by omega)
            refine ⟨f2, d2, X2, x, g2, ?_, ?_, FT_tr a7 u3, u4⟩
            · rw [lp_s (s' := (mset 0 0 (nI (l + 1)) f', d', X')) ?_]
              · exact u1
              · unfold p_X5_readAll_L41
                dsimp only
                rw [if_neg hl160, a1]
                simp only [Option.bind_some]
                rw [if_neg (by decide), a3, hl, nI_add]
            · rw [lp_s (s' := (nI (l + 1), g')) ?_]
              · exact u2
              · unfold p_X7_text_L57
                dsimp only
                rw [if_pos (show g 0 7 = 0 from t7), if_neg t110, a2]
                simp only [Option.bind_some]
                rw [nI_add]
        · refine ⟨f', d', X', nI (l + 1), g', lp_r ?_, ?_, a4, .inl a3⟩
          · unfold p_X5_readAll_L41
            dsimp only
            rw [if_neg hl160, a1]
            simp only [Option.bind_some]
            rw [if_pos (show nI 0 = 0 from rfl)]
          · rw [lp_s (s' := (nI (l + 1), g')) ?_]
            · refine lp_r ?_
              unfold p_X7_text_L57
              dsimp only
              rw [if_neg (Fdd_g a3).1]
            · unfold p_X7_text_L57
              dsimp only
              rw [if_pos (show g 0 7 = 0 from t7), if_neg t110, a2]
              simp only [Option.bind_some]
              rw [nI_add]
end TXH

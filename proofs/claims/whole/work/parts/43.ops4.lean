/-! ===== the calls, one by one: the tape, what is seen, images ===== -/
section OPS4
variable {x0 x1 x2 x3 x4 x5 x6 x7 x8 s0 s1 s2 s3 g : Mem} {A : Fk}
theorem MS_as {g g' : Mem} {pg : Nat} {A : Fk} (h : MS g pg A) (h0 : g' 0 0 = g 0 0) (h1 : g' 1 = g 1) : MS g' pg A := by
  unfold MS
  rw [h0, h1]
  exact h
theorem R_img_as {x g g' : Mem} {pg : Nat} {k : Bool} (h : R_img x g pg k) (h0 : g' 0 0 = g 0 0) (h1 : g' 1 = g 1) : R_img x g' pg k := fun hk => by
  obtain ⟨B, q1, q2, q3⟩ := h hk
  exact ⟨B, q1, q2, MS_as q3 h0 h1⟩
theorem R_sheet_as {s g g' : Mem} {k : Nat} (h : R_sheet s g k) (h9 : g' 9 = g 9) (h10 : g' 10 = g 10) (h11 : g' 11 = g 11) : R_sheet s g' k := by
  unfold R_sheet
  rw [h9, h10, h11]
  exact h
theorem Rest_but {x0 x3 x4 x5 x6 x8 s0 s1 s2 s3 g g' x5' x8' : Mem} {n : Nat} (h : Rest x0 x3 x4 x5 x6 x8 s0 s1 s2 s3 g n) (ht : R_tape x5' g') (hs : R_seen x8' g' n) (h0 : g' 0 0 = g 0 0) (h6 : g' 0 6 = g 0 6) (h22 : g' 0 22 = g 0 22) (h1 : g' 1 = g 1) (h4 : g' 4 = g 4) (h5 : g' 5 = g 5) (h8 : g' 8 = g 8) (h9 : g' 9 = g 9) (h10 : g' 10 = g 10) (h11 : g' 11 = g 11) : Rest x0 x3 x4 x5' x6 x8' s0 s1 s2 s3 g' n := by
  obtain ⟨-, q2, ⟨k0, k1, q3, q4, q5, q6, q7⟩, -, ⟨q9, q10, q11, q12⟩, q13, q14⟩ := h
  refine ⟨ht, by rw [h6]; exact q2, ⟨k0, k1, q3, by rw [h8]; exact q4, by rw [h8]; exact q5, R_img_as q6 h0 h1, R_img_as q7 h0 h1⟩, hs, ⟨R_sheet_as q9 h9 h10 h11, R_sheet_as q10 h9 h10 h11, R_sheet_as q11 h9 h10 h11, R_sheet_as q12 h9 h10 h11⟩, by rw [h22]; exact q13, ?_⟩
  unfold R_const
  rw [h4, h5]
  exact q14
theorem R_seen_as {x8 g g' : Mem} {n : Nat} (h : R_seen x8 g n) (h21 : g' 0 21 = g 0 21) (h6 : g' 6 = g 6) : R_seen x8 g' n := by
  unfold R_seen
  rw [h21, h6]
  exact h
theorem R_tape_as {x5 g g' : Mem} (h : R_tape x5 g) (h5 : g' 0 5 = g 0 5) (h3 : g' 3 = g 3) : R_tape x5 g' := by
  unfold R_tape
  rw [h5, h3]
  exact h
theorem op_feed (R : Rel x0 x1 x3 x4 x5 x6 x8 s0 s1 s2 s3 g) (a : Int32) : ∃ r x5' g', p_X6_feed x0 x5 a = some (r, x5') ∧ p_X7_feed g a = some (r, g') ∧ Rel x0 x1 x3 x4 x5' x6 x8 s0 s1 s2 s3 g' := by
  have R0 := R
  obtain ⟨A, h, hk, hm, hR⟩ := R
  have hR0 := hR
  obtain ⟨⟨n, hn, t1, t2, t3⟩, -, -, hS, -⟩ := hR
  unfold p_X6_feed p_X7_feed p_X4_append
  rw [isWithin_eq, in_c0 127 (by decide), t1, t2]
  simp only [Option.bind_some, bI_0]
  cases hW : wi a (nI 0) (nI 127) with
  | false => exact ⟨-1, x5, g, rfl, rfl, R0⟩
  | true =>
    obtain ⟨c, -, hc, rfl⟩ := wi_in (by decide) (by decide) hW
    rw [ite_tf, ite_tf]
    by_cases hf : n = 160
    · subst hf
      rw [if_neg (by decide), if_pos rfl]
      exact ⟨-3, x5, g, rfl, rfl, R0⟩
    · rw [if_pos ((nI_ltI (by omega) (by decide)).mpr (by omega)), if_neg (fun z => hf ((nI_eq (by omega) (by decide)).mp z)), gd_t (inb_nI (by omega) (by decide)), gd_t (inb_nI (by omega) (by decide)), nI_clamp (by omega)]
      unfold bnd
      simp only [Option.bind_some]
      rw [if_neg (by decide), nI_add]
      refine ⟨nI (n + 1), _, _, by rw [mset_s], rfl, A, h, hk, MS_as hm (by rw [mset_no (by decide), mrow_ne (by decide)]) (by rw [mset_ne (by decide), mrow_ne (by decide)]), ?_⟩
      refine Rest_but hR0 ⟨n + 1, by omega, mset_s, mset_s, fun k hk2 => ?_⟩ (R_seen_as hS (by rw [mset_no (by decide), mrow_ne (by decide)]) (by rw [mset_ne (by decide), mrow_ne (by decide)])) (by rw [mset_no (by decide), mrow_ne (by decide)]) (by rw [mset_no (by decide), mrow_ne (by decide)]) (by rw [mset_no (by decide), mrow_ne (by decide)]) ?_ ?_ ?_ ?_ ?_ ?_ ?_
      · rw [mset_ne (by decide), mrow_s, mset_ne (by decide), mrow_s]
        by_cases hkn : k = n
        · subst hkn
          exact ⟨c, hc, pk_us, pk_us⟩
        · rw [pk_un hkn, pk_un hkn]
          exact t3 k (by omega)
      all_goals rw [mset_ne (by decide), mrow_ne (by decide)]
theorem op_end (R : Rel x0 x1 x3 x4 x5 x6 x8 s0 s1 s2 s3 g) (a : Int32) : ∃ r x5' g', p_X6_end x0 x5 a = some (r, x5') ∧ p_X7_end g a = some (r, g') ∧ Rel x0 x1 x3 x4 x5' x6 x8 s0 s1 s2 s3 g' := by
  have R0 := R
  obtain ⟨A, h, hk, hm, hR⟩ := R
  have hR0 := hR
  obtain ⟨⟨n, hn, t1, t2, t3⟩, -, -, hS, -⟩ := hR
  unfold p_X6_end p_X7_end
  rw [isWithin_eq, t1, t2, in_0]
  simp only [Option.bind_some, bI_0]
  cases hW : wi a (nI 0) (nI n) with
  | false => exact ⟨-1, x5, g, rfl, rfl, R0⟩
  | true =>
    obtain ⟨c, -, hc, rfl⟩ := wi_in (by decide) (by omega) hW
    refine ⟨nI n, mset 0 0 (nI c) x5, mset 0 5 (nI c) g, rfl, rfl, A, h, hk, MS_as hm (mset_no (by decide)) (mset_ne (by decide)), ?_⟩
    exact Rest_but hR0 ⟨c, by omega, mset_s, mset_s, fun k hk2 => by rw [mset_ne (by decide), mset_ne (by decide)]; exact t3 k (by omega)⟩ (R_seen_as hS (mset_no (by decide)) (mset_ne (by decide))) (mset_no (by decide)) (mset_no (by decide)) (mset_no (by decide)) (mset_ne (by decide)) (mset_ne (by decide)) (mset_ne (by decide)) (mset_ne (by decide)) (mset_ne (by decide)) (mset_ne (by decide)) (mset_ne (by decide))
theorem op_forget (R : Rel x0 x1 x3 x4 x5 x6 x8 s0 s1 s2 s3 g) (a : Int32) : ∃ r x8' g', p_X6_forget x0 x8 a = some (r, x8') ∧ p_X7_forget g a = some (r, g') ∧ Rel x0 x1 x3 x4 x5 x6 x8' s0 s1 s2 s3 g' := by
  have R0 := R
  obtain ⟨A, h, hk, hm, hR⟩ := R
  have hR0 := hR
  obtain ⟨hT, -, -, ⟨m, S, hm6, v1, v2, v3⟩, -⟩ := hR
  unfold p_X6_forget p_X7_forget
  rw [isWithin_eq, v1, v2, in_0]
  simp only [Option.bind_some, bI_0]
  cases hW : wi a (nI 0) (nI m) with
  | false => exact ⟨-1, x8, g, rfl, rfl, R0⟩
  | true =>
    obtain ⟨c, -, hc, rfl⟩ := wi_in (by decide) (by omega) hW
    refine ⟨nI m, mset 0 0 (nI c) x8, mset 0 21 (nI c) g, rfl, rfl, A, h, hk, MS_as hm (mset_no (by decide)) (mset_ne (by decide)), ?_⟩
    refine Rest_but hR0 (R_tape_as hT (mset_no (by decide)) (mset_ne (by decide))) ⟨c, S, by omega, mset_s, mset_s, fun e he => ?_⟩ (mset_no (by decide)) (mset_no (by decide)) (mset_no (by decide)) (mset_ne (by decide)) (mset_ne (by decide)) (mset_ne (by decide)) (mset_ne (by decide)) (mset_ne (by decide)) (mset_ne (by decide)) (mset_ne (by decide))
    rw [mset_ne (by decide), mset_ne (by decide), mset_ne (by decide), mset_ne (by decide), mset_ne (by decide)]
    exact v3 e (by omega)
theorem op_see (R : Rel x0 x1 x3 x4 x5 x6 x8 s0 s1 s2 s3 g) (a b c d : Int32) : ∃ r x8' g', p_X6_see x0 x1 x8 a b c d = some (r, x8') ∧ p_X7_see g a b c d = some (r, g') ∧ Rel x0 x1 x3 x4 x5 x6 x8' s0 s1 s2 s3 g' := by
  have R0 := R
  obtain ⟨A, h, hk, hm, hR⟩ := R
  have hR0 := hR
  obtain ⟨hT, -, -, ⟨m, S, hm6, v1, v2, v3⟩, -⟩ := hR
  unfold p_X6_see p_X7_see p_X3_add
  rw [hasGoose_eq h, isOwner_eq, isWithin_eq, isWithin_eq, isGoose_eq hm.1, isOwnerM_eq, in_c0 20 (by decide), in_c0 99 (by decide), v1, v2]
  simp only [Option.bind_some, bI_0]
  cases hG : hasG (A 0 0) a with
  | false => exact ⟨-1, x8, g, rfl, rfl, R0⟩
  | true =>
    obtain ⟨gg, hg, rfl⟩ := hasG_of (geese_lt hk) hG
    rw [ite_tf, ite_tf]
    cases hO : wi b (nI 0) (nI 4) with
    | false => exact ⟨-1, x8, g, rfl, rfl, R0⟩
    | true =>
      obtain ⟨o, ho, rfl⟩ := wi_of (by decide) hO
      rw [ite_tf, ite_tf]
      cases hW : wi c (nI 0) (nI 20) with
      | false => exact ⟨-1, x8, g, rfl, rfl, R0⟩
      | true =>
        obtain ⟨n, -, hn, rfl⟩ := wi_in (by decide) (by decide) hW
        rw [ite_tf, ite_tf]
        cases hV : wi d (nI 0) (nI 99) with
        | false => exact ⟨-1, x8, g, rfl, rfl, R0⟩
        | true =>
          obtain ⟨v, -, hv, rfl⟩ := wi_in (by decide) (by decide) hV
          rw [ite_tf, ite_tf]
          by_cases hf : m = 6
          · subst hf
            rw [if_neg (by decide), if_pos rfl]
            exact ⟨-3, x8, g, rfl, rfl, R0⟩
          · have i6 : inb (nI m) 6 = true := inb_nI (by omega) (by decide)
            rw [if_pos ((nI_ltI (by omega) (by decide)).mpr (by omega)), if_neg (fun z => hf ((nI_eq (by omega) (by decide)).mp z)), pk_mul, nI_add, nI_add, nI_add, nI_add, gd_t i6, nI_clamp (by omega), nI_clamp (by omega), nI_clamp (by omega), nI_clamp (by omega), nI_clamp (by omega), gd_t (inb_nI (by omega) (by decide))]
            unfold bnd
            dsimp only
            rw [gd_t i6, gd_t i6, gd_t i6, gd_t (inb_nI (by omega) (by decide)), gd_t (inb_nI (by omega) (by decide)), gd_t (inb_nI (by omega) (by decide))]
            simp only [Option.bind_some]
            rw [if_neg (by decide)]
            obtain ⟨S', hS'⟩ : ∃ S' : Nat → Nat → Nat, S' = fun e j => if e = m then (if j = 0 then gg else if j = 1 then o else if j = 2 then n else v) else S e j := ⟨_, rfl⟩
            have S2 : ∀ e j, e ≠ m → S' e j = S e j := fun e j z => by rw [hS']; exact if_neg z
            have S10 : S' m 0 = gg := by rw [hS']; exact if_pos rfl
            have S11 : S' m 1 = o := by rw [hS']; exact if_pos rfl
            have S12 : S' m 2 = n := by rw [hS']; exact if_pos rfl
            have S13 : S' m 3 = v := by rw [hS']; exact if_pos rfl
            refine ⟨nI (m + 1), _, _, by rw [mset_s], rfl, A, h, hk, MS_as hm (by rw [mset_no (by decide), mrow_ne (by decide), mrow_ne (by decide), mrow_ne (by decide), mrow_ne (by decide)]) (by rw [mset_ne (by decide), mrow_ne (by decide), mrow_ne (by decide), mrow_ne (by decide), mrow_ne (by decide)]), ?_⟩
            refine Rest_but hR0 (R_tape_as hT (by rw [mset_no (by decide), mrow_ne (by decide), mrow_ne (by decide), mrow_ne (by decide), mrow_ne (by decide)]) (by rw [mset_ne (by decide), mrow_ne (by decide), mrow_ne (by decide), mrow_ne (by decide), mrow_ne (by decide)])) ⟨m + 1, S', by omega, mset_s, mset_s, fun e he => ?_⟩ (by rw [mset_no (by decide), mrow_ne (by decide), mrow_ne (by decide), mrow_ne (by decide), mrow_ne (by decide)]) (by rw [mset_no (by decide), mrow_ne (by decide), mrow_ne (by decide), mrow_ne (by decide), mrow_ne (by decide)]) (by rw [mset_no (by decide), mrow_ne (by decide), mrow_ne (by decide), mrow_ne (by decide), mrow_ne (by decide)]) ?_ ?_ ?_ ?_ ?_ ?_ ?_
            · by_cases hem : e = m
              · subst hem
                refine ⟨⟨by rw [S10]; exact hg, by rw [S11]; omega, by rw [S12]; exact hn, by rw [S13]; exact hv⟩, ⟨?_, ?_, ?_, ?_⟩, ?_, ?_, ?_, ?_⟩
                · rw [mset_ne (by decide), mrow_ne (by decide), mrow_ne (by decide), mrow_ne (by decide), mrow_s, pk_us, S10]
                · rw [mset_ne (by decide), mrow_ne (by decide), mrow_ne (by decide), mrow_s, pk_us, S11]
                · rw [mset_ne (by decide), mrow_ne (by decide), mrow_s, pk_us, S12]
                · rw [mset_ne (by decide), mrow_s, pk_us, S13]
                · rw [mset_ne (by decide), mrow_s, pk_un (by omega), pk_un (by omega), pk_un (by omega), pk_us, S10]
                · rw [mset_ne (by decide), mrow_s, pk_un (by omega), pk_un (by omega), pk_us, S11]
                · rw [mset_ne (by decide), mrow_s, pk_un (by omega), pk_us, S12]
                · rw [mset_ne (by decide), mrow_s, pk_us, S13]
              · obtain ⟨⟨w1, w2, w3, w4⟩, ⟨y1, y2, y3, y4⟩, z1, z2, z3, z4⟩ := v3 e (by omega)
                refine ⟨⟨by rw [S2 _ _ hem]; exact w1, by rw [S2 _ _ hem]; exact w2, by rw [S2 _ _ hem]; exact w3, by rw [S2 _ _ hem]; exact w4⟩, ⟨?_, ?_, ?_, ?_⟩, ?_, ?_, ?_, ?_⟩
                · rw [mset_ne (by decide), mrow_ne (by decide), mrow_ne (by decide), mrow_ne (by decide), mrow_s, pk_un hem, S2 _ _ hem, y1]
                · rw [mset_ne (by decide), mrow_ne (by decide), mrow_ne (by decide), mrow_s, pk_un hem, S2 _ _ hem, y2]
                · rw [mset_ne (by decide), mrow_ne (by decide), mrow_s, pk_un hem, S2 _ _ hem, y3]
                · rw [mset_ne (by decide), mrow_s, pk_un hem, S2 _ _ hem, y4]
                · rw [mset_ne (by decide), mrow_s, pk_un (by omega), pk_un (by omega), pk_un (by omega), pk_un (by omega), S2 _ _ hem, z1]
                · rw [mset_ne (by decide), mrow_s, pk_un (by omega), pk_un (by omega), pk_un (by omega), pk_un (by omega), S2 _ _ hem, z2]
                · rw [mset_ne (by decide), mrow_s, pk_un (by omega), pk_un (by omega), pk_un (by omega), pk_un (by omega), S2 _ _ hem, z3]
                · rw [mset_ne (by decide), mrow_s, pk_un (by omega), pk_un (by omega), pk_un (by omega), pk_un (by omega), S2 _ _ hem, z4]
            all_goals rw [mset_ne (by decide), mrow_ne (by decide), mrow_ne (by decide), mrow_ne (by decide), mrow_ne (by decide)]
theorem geese_eq {B : Fk} (h : MS g 0 A) (hk : okF A) {pg : Nat} (h2 : MS g pg B) (hk2 : okF B) : B 0 0 = A 0 0 := by
  have e := h.1.symm.trans h2.1
  exact ((nI_eq (geese_lt hk) (geese_lt hk2)).mp e).symm
theorem op_back (R : Rel x0 x1 x3 x4 x5 x6 x8 s0 s1 s2 s3 g) (a : Int32) : ∃ r x1' g', p_X6_back x0 x1 x3 x4 a = some (r, x1') ∧ p_X7_back g a = some (r, g') ∧ Rel x0 x1' x3 x4 x5 x6 x8 s0 s1 s2 s3 g' := by
  have R0 := R
  obtain ⟨A, h, hk, hm, hR⟩ := R
  have hR0 := hR
  obtain ⟨-, -, ⟨k0, k1, i1, i2, i3, i4, i5⟩, -⟩ := hR
  have e34 : (nI 34).toNatClampNeg = 34 := by decide
  unfold p_X6_back p_X7_back
  rw [isWithin_eq, in_c01, i1]
  simp only [Option.bind_some, bI_0]
  cases hW : wi a (nI 0) (nI 1) with
  | false => exact ⟨-1, x1, g, rfl, rfl, R0⟩
  | true =>
    obtain ⟨j, -, hj, rfl⟩ := wi_in (by decide) (by decide) hW
    rw [ite_tf, ite_tf, gd_t (inb_nI (by omega) (by decide))]
    rcases (show j = 0 ∨ j = 1 by omega) with rfl | rfl
    · rw [show (nI 0).toNatClampNeg = 0 from rfl, i2]
      simp only [bI_0]
      cases k0 with
      | false => exact ⟨-2, x1, g, by rw [if_pos (by cases k1 <;> decide)], rfl, R0⟩
      | true =>
        obtain ⟨B, q1, q2, q3⟩ := i4 rfl
        obtain ⟨f', r1, r2⟩ := copyFrom_eq (f := x1) q1 q2
        obtain ⟨g', t1, t2, t3⟩ := copyOn_eq (b := 0) q2 q3 (by decide) (by decide) (.inr (by decide))
        refine ⟨nI (B 0 1), f', g', ?_, ?_, Rel_now (B := B) hR0 (Fr_Keep0 t3 (.inl rfl)) r2 q2 t2 (geese_eq hm hk q3 q2)⟩
        · rw [if_neg (by cases k1 <;> decide), if_pos trivial, r1]
          simp only [Option.bind_some]
          rw [r2.1.2.1]
        · rw [if_neg (by decide), nI_add, pk_mul, show 60 * (0 + 1) = 60 from rfl, t1]
          simp only [Option.bind_some]
          rw [gd_t (by decide), e34, MZ_week t2]
    · rw [show (nI 1).toNatClampNeg = 1 from rfl, i3]
      simp only [bI_0]
      cases k1 with
      | false => exact ⟨-2, x1, g, by rw [if_pos (by cases k0 <;> decide)], rfl, R0⟩
      | true =>
        obtain ⟨B, q1, q2, q3⟩ := i5 rfl
        obtain ⟨f', r1, r2⟩ := copyFrom_eq (f := x1) q1 q2
        obtain ⟨g', t1, t2, t3⟩ := copyOn_eq (b := 0) q2 q3 (by decide) (by decide) (.inr (by decide))
        refine ⟨nI (B 0 1), f', g', ?_, ?_, Rel_now (B := B) hR0 (Fr_Keep0 t3 (.inl rfl)) r2 q2 t2 (geese_eq hm hk q3 q2)⟩
        · rw [if_neg (by cases k0 <;> decide), if_neg (by decide), if_pos trivial, r1]
          simp only [Option.bind_some]
          rw [r2.1.2.1]
        · rw [if_neg (by decide), nI_add, pk_mul, show 60 * (1 + 1) = 120 from rfl, t1]
          simp only [Option.bind_some]
          rw [gd_t (by decide), e34, MZ_week t2]
theorem op_keep (R : Rel x0 x1 x3 x4 x5 x6 x8 s0 s1 s2 s3 g) (a : Int32) : ∃ r x0' x3' x4' g', p_X6_keep x0 x1 x3 x4 a = some (r, x0', x3', x4') ∧ p_X7_keep g a = some (r, g') ∧ Rel x0' x1 x3' x4' x5 x6 x8 s0 s1 s2 s3 g' := by
  have R0 := R
  obtain ⟨A, h, hk, hm, hR⟩ := R
  have hR0 := hR
  obtain ⟨q1, q2, ⟨k0, k1, i1, i2, i3, i4, i5⟩, q8, ⟨q9, q10, q11, q12⟩, q13, q14⟩ := hR
  unfold p_X6_keep p_X7_keep
  rw [isWithin_eq, in_c01, i1]
  simp only [Option.bind_some, bI_0]
  cases hW : wi a (nI 0) (nI 1) with
  | false => exact ⟨-1, x0, x3, x4, g, rfl, rfl, R0⟩
  | true =>
    obtain ⟨j, -, hj, rfl⟩ := wi_in (by decide) (by decide) hW
    have fin : ∀ (pg j : Nat) (g1 : Mem) (x0' x3' x4' : Mem) (l0 l1 : Bool), (j = 0 ∨ j = 1) → Fr pg g g1 → (pg = 60 ∨ pg = 120) → x0' 0 1 = x0 0 1 → x0' 0 0 = nI ((if l0 = true then 1 else 0) + (if l1 = true then 2 else 0)) → (j = 0 → l0 = true ∧ l1 = k1 ∧ R_img x3' g1 60 true ∧ R_img x4' g1 120 k1) → (j = 1 → l0 = k0 ∧ l1 = true ∧ R_img x3' g1 60 k0 ∧ R_img x4' g1 120 true) → Rel x0' x1 x3' x4' x5 x6 x8 s0 s1 s2 s3 (mrow 8 (upd (g1 8) j (nI 1)) g1) := by
      intro pg j g1 x0' x3' x4' l0 l1 hj hf hp y1 y2 y3 y4
      refine ⟨A, h, hk, MS_as (MS_Fr hk hm hf (by omega)) (by rw [mrow_ne (by decide)]) (by rw [mrow_ne (by decide)]), ?_, ?_, ⟨l0, l1, y2, ?_⟩, ?_, ⟨?_, ?_, ?_, ?_⟩, ?_, ?_⟩
      · exact R_tape_as q1 (by rw [mrow_ne (by decide), hf.1 0 (by decide)]) (by rw [mrow_ne (by decide), hf.1 3 (by decide)])
      · rw [mrow_ne (by decide), hf.1 0 (by decide)]; exact q2
      · rw [mrow_s, hf.1 8 (by decide)]
        rcases hj with rfl | rfl
        · obtain ⟨rfl, rfl, z1, z2⟩ := y3 rfl
          exact ⟨pk_us, by rw [pk_un (by decide)]; exact i3, R_img_as z1 (by rw [mrow_ne (by decide)]) (by rw [mrow_ne (by decide)]), R_img_as z2 (by rw [mrow_ne (by decide)]) (by rw [mrow_ne (by decide)])⟩
        · obtain ⟨rfl, rfl, z1, z2⟩ := y4 rfl
          exact ⟨by rw [pk_un (by decide)]; exact i2, pk_us, R_img_as z1 (by rw [mrow_ne (by decide)]) (by rw [mrow_ne (by decide)]), R_img_as z2 (by rw [mrow_ne (by decide)]) (by rw [mrow_ne (by decide)])⟩
      · exact R_seen_as q8 (by rw [mrow_ne (by decide), hf.1 0 (by decide)]) (by rw [mrow_ne (by decide), hf.1 6 (by decide)])
      · exact R_sheet_as q9 (by rw [mrow_ne (by decide), hf.1 9 (by decide)]) (by rw [mrow_ne (by decide), hf.1 10 (by decide)]) (by rw [mrow_ne (by decide), hf.1 11 (by decide)])
      · exact R_sheet_as q10 (by rw [mrow_ne (by decide), hf.1 9 (by decide)]) (by rw [mrow_ne (by decide), hf.1 10 (by decide)]) (by rw [mrow_ne (by decide), hf.1 11 (by decide)])
      · exact R_sheet_as q11 (by rw [mrow_ne (by decide), hf.1 9 (by decide)]) (by rw [mrow_ne (by decide), hf.1 10 (by decide)]) (by rw [mrow_ne (by decide), hf.1 11 (by decide)])
      · exact R_sheet_as q12 (by rw [mrow_ne (by decide), hf.1 9 (by decide)]) (by rw [mrow_ne (by decide), hf.1 10 (by decide)]) (by rw [mrow_ne (by decide), hf.1 11 (by decide)])
      · rw [y1, mrow_ne (by decide), hf.1 0 (by decide)]; exact q13
      · unfold R_const
        rw [mrow_ne (by decide), mrow_ne (by decide), hf.1 4 (by decide), hf.1 5 (by decide)]
        exact q14
    have R_img_Fr : ∀ {x : Mem} {p q : Nat} {k : Bool} {g1 : Mem}, R_img x g p k → Fr q g g1 → (p + 60 ≤ q ∨ q + 60 ≤ p) → R_img x g1 p k := fun hi hf hd hk2 => by
      obtain ⟨B, z1, z2, z3⟩ := hi hk2
      exact ⟨B, z1, z2, MS_Fr z2 z3 hf hd⟩
    rw [ite_tf, ite_tf]
    rcases (show j = 0 ∨ j = 1 by omega) with rfl | rfl
    · obtain ⟨f', r1, r2⟩ := copyFrom_eq (f := x3) h hk
      obtain ⟨g1, t1, t2, t3⟩ := copyOn_eq (b := 60) hk hm (by decide) (by decide) (.inl (by decide))
      refine ⟨bI k0, mset 0 0 (nI ((if k0 = true then 1 else 0) + (if k1 = true then 2 else 0)) ||| ((nI 1) <<< ((nI 0) &&& 31))) x0, f', x4, mrow 8 (upd (g1 8) 0 (nI 1)) g1, ?_, ?_, fin 60 0 g1 _ f' x4 true k1 (.inl rfl) t3 (.inl rfl) (mset_no (by decide)) (by rw [mset_s]; cases k0 <;> cases k1 <;> rfl) (fun _ => ⟨rfl, rfl, fun _ => ⟨A, r2, hk, t2⟩, R_img_Fr i5 t3 (.inr (by decide))⟩) (fun z => by cases z)⟩
      · rw [if_pos rfl, r1]
        simp only [Option.bind_some]
        cases k0 <;> cases k1 <;> rfl
      · rw [nI_add, pk_mul, show 60 * (0 + 1) = 60 from rfl, t1]
        simp only [Option.bind_some]
        unfold p_X7_keep_B37
        rw [gd_t (by decide), gd_t (by decide), gd_t (by decide), show (nI 0).toNatClampNeg = 0 from rfl, t3.1 8 (by decide), i2]
        simp only [bI_0]
        cases k0 <;> rfl
    · obtain ⟨f', r1, r2⟩ := copyFrom_eq (f := x4) h hk
      obtain ⟨g1, t1, t2, t3⟩ := copyOn_eq (b := 120) hk hm (by decide) (by decide) (.inl (by decide))
      refine ⟨bI k1, mset 0 0 (nI ((if k0 = true then 1 else 0) + (if k1 = true then 2 else 0)) ||| ((nI 1) <<< ((nI 1) &&& 31))) x0, x3, f', mrow 8 (upd (g1 8) 1 (nI 1)) g1, ?_, ?_, fin 120 1 g1 _ x3 f' k0 true (.inr rfl) t3 (.inr rfl) (mset_no (by decide)) (by rw [mset_s]; cases k0 <;> cases k1 <;> rfl) (fun z => by cases z) (fun _ => ⟨rfl, rfl, R_img_Fr i4 t3 (.inl (by decide)), fun _ => ⟨A, r2, hk, t2⟩⟩)⟩
      · rw [if_neg (by decide), if_pos rfl, r1]
        simp only [Option.bind_some]
        cases k0 <;> cases k1 <;> rfl
      · rw [nI_add, pk_mul, show 60 * (1 + 1) = 120 from rfl, t1]
        simp only [Option.bind_some]
        unfold p_X7_keep_B37
        rw [gd_t (by decide), gd_t (by decide), gd_t (by decide), show (nI 1).toNatClampNeg = 1 from rfl, t3.1 8 (by decide), i3]
        simp only [bI_0]
        cases k1 <;> rfl
end OPS4

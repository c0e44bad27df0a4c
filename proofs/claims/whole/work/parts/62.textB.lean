/-! ===== the text: the model's tokens ===== -/
section TXB
variable {t : Nat → Nat} {n : Nat}
/-- the tape as the model has it -/
def BM (g : Mem) (n : Nat) (t : Nat → Nat) : Prop := n ≤ 160 ∧ g 0 5 = nI n ∧ ∀ k, k < n → t k ≤ 127 ∧ g 3 k = nI (t k)
/-- the numbers that a step changes -/
def J7 (j : Nat) : Prop := 7 ≤ j ∧ j ≤ 12
theorem BM_But {J : Nat → Prop} {g g' : Mem} (h : BM g n t) (hb : But J g g') (h5 : ¬ J 5) : BM g' n t := ⟨h.1, by rw [hb.1 5 h5]; exact h.2.1, fun k hk => by rw [hb.2 3 (by decide)]; exact h.2.2 k hk⟩
theorem byteAt_eq {g : Mem} (h : BM g n t) {p : Nat} (hp : p < 2 ^ 31) : p_X7_byteAt g (nI p) = some (if p < n then nI (t p) else -4) := by
  have h160 := h.1
  unfold p_X7_byteAt
  rw [h.2.1]
  by_cases hc : p < n
  · rw [if_neg (nI_ge hc (by omega)), gd_t (inb_nI (by omega) (by decide)), nI_clamp hp, (h.2.2 p hc).2, if_pos hc]
  · rw [if_pos ((nI_leI (by omega) hp).mpr (by omega)), if_neg hc]
theorem inL_eq {p : Nat} (hb : p < n → t p ≤ 127) : p_X7_in ((if p < n then nI (t p) else -4).toInt64) (97 : Int64) (122 : Int64) = some (bI (decide (p < n) && isL (t p))) := by
  by_cases hc : p < n
  · have := hb hc
    rw [if_pos hc, in_c 97 122 (by decide) (by decide), wi_nI (by omega) (by decide) (by decide), decide_eq_true hc, Bool.true_and]
    unfold isL
    rw [← Bool.decide_and]
  · rw [if_neg hc, in_c 97 122 (by decide) (by decide), decide_eq_false hc, Bool.false_and]
    decide
theorem inD_eq {p : Nat} (hb : p < n → t p ≤ 127) : p_X7_in ((if p < n then nI (t p) else -4).toInt64) (48 : Int64) (57 : Int64) = some (bI (decide (p < n) && isD (t p))) := by
  by_cases hc : p < n
  · have := hb hc
    rw [if_pos hc, in_c 48 57 (by decide) (by decide), wi_nI (by omega) (by decide) (by decide), decide_eq_true hc, Bool.true_and]
    unfold isD
    rw [← Bool.decide_and]
  · rw [if_neg hc, in_c 48 57 (by decide) (by decide), decide_eq_false hc, Bool.false_and]
    decide
theorem blank_m : ∀ (k p : Nat) (g : Mem), n - p = k → p ≤ n → BM g n t → g 0 9 = nI p → ∃ g', lp p_X7_step_L8 g = some g' ∧ g' 0 9 = nI (rn isB t n p) ∧ But (fun j => j = 9) g g'
  | k, p, g, hk, hp, hb, h1 => by
    have h160 := hb.1
    have e : p_X7_step_L8 g = if p < n ∧ t p = 32 then some (.inl (mset 0 9 (nI (p + 1)) g)) else some (.inr g) := by
      unfold p_X7_step_L8
      rw [h1, byteAt_eq hb (by omega), nI_add]
      simp only [Option.bind_some]
      by_cases hc : p < n
      · have := (hb.2.2 p hc).1
        rw [if_pos hc]
        by_cases h32 : t p = 32
        · rw [if_pos (by rw [h32]), if_pos ⟨hc, h32⟩]
        · rw [if_neg (fun z => h32 ((nI_eq (by omega) (by decide)).mp z)), if_neg (fun z => h32 z.2)]
      · rw [if_neg hc, if_neg (by decide), if_neg (fun z => hc z.1)]
    by_cases hc : p < n ∧ t p = 32
    · rw [if_pos hc] at e
      have hBc : isB (t p) = true := decide_eq_true hc.2
      cases k with
      | zero => omega
      | succ k =>
        obtain ⟨g', q1, q2, q3⟩ := blank_m k (p + 1) (mset 0 9 (nI (p + 1)) g) (by omega) hc.1 (BM_But hb (But_set (J := fun j => j = 9) rfl _ g) (by decide)) mset_s
        exact ⟨g', by rw [lp_s e]; exact q1, by rw [rn_step hc.1 hBc]; exact q2, But_tr (But_set (J := fun j => j = 9) rfl _ g) q3⟩
    · rw [if_neg hc] at e
      rw [rn_stop (fun z => hc ⟨z.1, of_decide_eq_true z.2⟩)]
      exact ⟨g, lp_r e, h1, But_rfl _ g⟩
theorem name_m : ∀ (k p : Nat) (g : Mem), n - p = k → p ≤ n → BM g n t → g 0 9 = nI p → ∃ g', lp p_X7_step_L84 g = some g' ∧ g' 0 9 = nI (rn isL t n p) ∧ But (fun j => j = 9) g g'
  | k, p, g, hk, hp, hb, h1 => by
    have h160 := hb.1
    have e : p_X7_step_L84 g = if (decide (p < n) && isL (t p)) = false then some (.inr g) else some (.inl (mset 0 9 (nI (p + 1)) g)) := by
      unfold p_X7_step_L84
      rw [h1, byteAt_eq hb (by omega), nI_add]
      simp only [Option.bind_some]
      rw [inL_eq (fun z => (hb.2.2 p z).1)]
      simp only [Option.bind_some, bI_0]
    cases hc : (decide (p < n) && isL (t p)) with
    | true =>
      rw [hc, ite_tf] at e
      rw [Bool.and_eq_true, decide_eq_true_eq] at hc
      cases k with
      | zero => omega
      | succ k =>
        obtain ⟨g', q1, q2, q3⟩ := name_m k (p + 1) (mset 0 9 (nI (p + 1)) g) (by omega) hc.1 (BM_But hb (But_set (J := fun j => j = 9) rfl _ g) (by decide)) mset_s
        exact ⟨g', by rw [lp_s e]; exact q1, by rw [rn_step hc.1 hc.2]; exact q2, But_tr (But_set (J := fun j => j = 9) rfl _ g) q3⟩
    | false =>
      rw [hc, ite_ff] at e
      rw [rn_stop (fun z => by rw [decide_eq_true z.1, z.2] at hc; cases hc)]
      exact ⟨g, lp_r e, h1, But_rfl _ g⟩
theorem num_m {s : Nat} : ∀ (k p : Nat) (g : Mem), n - p = k → s ≤ p → p ≤ n → BM g n t → g 0 9 = nI p → g 0 10 = nI s → g 0 12 = nv t s (min (p - s) 2) → ∃ g', lp p_X7_step_L140 g = some g' ∧ g' 0 9 = nI (rn isD t n p) ∧ g' 0 12 = nv t s (min (rn isD t n p - s) 2) ∧ But (fun j => j = 9 ∨ j = 12) g g'
  | k, p, g, hk, hs, hp, hb, h1, h10, h12 => by
    have h160 := hb.1
    have e : p_X7_step_L140 g = if (decide (p < n) && isD (t p)) = false then some (.inr g) else some (.inl (mset 0 9 (nI (p + 1)) (mset 0 12 (nv t s (min (p + 1 - s) 2)) g))) := by
      unfold p_X7_step_L140 p_X7_step_B201
      rw [h1, byteAt_eq hb (by omega), h10, pk_sub hs, nI_add]
      simp only [Option.bind_some]
      rw [inD_eq (fun z => (hb.2.2 p z).1)]
      simp only [Option.bind_some, bI_0]
      cases hc : (decide (p < n) && isD (t p)) with
      | false => rw [ite_ff, ite_ff]
      | true =>
        rw [Bool.and_eq_true, decide_eq_true_eq] at hc
        rw [ite_tf, ite_tf, h12, if_pos hc.1]
        by_cases h2 : 2 ≤ p - s
        · rw [if_pos ((nI_leI (by decide) (by omega)).mpr h2), Nat.min_eq_right h2, Nat.min_eq_right (by omega)]
        · rw [if_neg (fun z => h2 ((nI_leI (by decide) (by omega)).mp z)), Nat.min_eq_left (by omega), Nat.min_eq_left (by omega), show p + 1 - s = (p - s) + 1 by omega]
          show _ = some (Sum.inl (mset 0 9 (nI (p + 1)) (mset 0 12 ((nI 10 * nv t s (p - s) + nI (t (s + (p - s)))) - nI 48) g)))
          rw [show s + (p - s) = p by omega]
    cases hc : (decide (p < n) && isD (t p)) with
    | true =>
      rw [hc, ite_tf] at e
      rw [Bool.and_eq_true, decide_eq_true_eq] at hc
      cases k with
      | zero => omega
      | succ k =>
        have bt : But (fun j => j = 9 ∨ j = 12) g (mset 0 9 (nI (p + 1)) (mset 0 12 (nv t s (min (p + 1 - s) 2)) g)) := But_tr (But_set (J := fun j => j = 9 ∨ j = 12) (.inr rfl) _ g) (But_set (J := fun j => j = 9 ∨ j = 12) (.inl rfl) _ _)
        obtain ⟨g', q1, q2, q3, q4⟩ := num_m (s := s) k (p + 1) (mset 0 9 (nI (p + 1)) (mset 0 12 (nv t s (min (p + 1 - s) 2)) g)) (by omega) (by omega) hc.1 (BM_But hb bt (by decide)) mset_s (by rw [bt.1 10 (by decide)]; exact h10) (by rw [mset_no (by decide), mset_s])
        exact ⟨g', by rw [lp_s e]; exact q1, by rw [rn_step hc.1 hc.2]; exact q2, by rw [rn_step hc.1 hc.2]; exact q3, But_tr bt q4⟩
    | false =>
      rw [hc, ite_ff] at e
      rw [rn_stop (fun z => by rw [decide_eq_true z.1, z.2] at hc; cases hc)]
      exact ⟨g, lp_r e, h1, h12, But_rfl _ g⟩
/-- the model has read the token from a place on -/
def TK (g : Mem) (t : Nat → Nat) (n p : Nat) : Prop := (lK t n p = 4 ∧ g 0 7 = nI 1 ∧ g 0 8 = nI (lS t n p)) ∨ (lK t n p ≠ 4 ∧ g 0 7 = nI 0 ∧ g 0 9 = nI (lE t n p) ∧ g 0 10 = nI (lS t n p) ∧ g 0 11 = nI (lK t n p) ∧ (lK t n p = 2 → g 0 12 = nI (lV t n p)))
theorem step_eq {g : Mem} {p : Nat} (hb : BM g n t) (hp : p ≤ n) (h7 : g 0 7 = nI 0) (h9 : g 0 9 = nI p) : ∃ g', p_X7_step g = some g' ∧ But J7 g g' ∧ TK g' t n p := by
  have h160 := hb.1
  obtain ⟨g1, q1, q2, q3⟩ := blank_m (n - p) p g rfl hp hb h9
  have hb1 : BM g1 n t := BM_But hb q3 (by decide)
  have hS := lS_le (t := t) hp
  have q2' : g1 0 9 = nI (lS t n p) := q2
  have r7 : g1 0 7 = nI 0 := by rw [q3.1 7 (by decide)]; exact h7
  have c1 : But J7 g g1 := But_up q3 (fun j hj => by unfold J7; omega)
  unfold p_X7_step
  rw [h7, if_pos (by decide), q1]
  simp only [Option.bind_some]
  rw [q2']
  have bt1 : But J7 g1 (mset 0 10 (nI (lS t n p)) g1) := But_set (by unfold J7; omega) _ g1
  have hb2 : BM (mset 0 10 (nI (lS t n p)) g1) n t := BM_But hb1 bt1 (by unfold J7; omega)
  rw [byteAt_eq hb2 (by omega)]
  simp only [Option.bind_some]
  have bt2 : But J7 g1 (mset 0 12 (nI 0) (mset 0 10 (nI (lS t n p)) g1)) := But_tr bt1 (But_set (by unfold J7; omega) _ _)
  have hb3 : BM (mset 0 12 (nI 0) (mset 0 10 (nI (lS t n p)) g1)) n t := BM_But hb1 bt2 (by unfold J7; omega)
  have lv := fun hk => lV_nv (t := t) hp hk
  have hKf : ∀ (f : Mem) (k : Nat), f 0 7 = nI 0 → p_X7_fails f (nI 1) = some (mset 0 8 (f 0 10) (mset 0 7 (nI 1) f)) := fun f _ h => by
    unfold p_X7_fails
    rw [h, if_pos (show nI 0 = 0 from rfl)]
  unfold TK
  unfold lK lE at lv ⊢
  generalize hs : lS t n p = s at *
  by_cases c0 : n ≤ s
  · rw [if_neg (show ¬ s < n by omega), if_pos rfl, if_pos c0, if_pos c0]
    exact ⟨_, rfl, But_tr c1 (But_tr bt2 (But_set (by unfold J7; omega) _ _)), .inr ⟨by decide, by rw [mset_no (by decide), mset_no (by decide), mset_no (by decide)]; exact r7, by rw [mset_no (by decide), mset_no (by decide), mset_no (by decide)]; exact q2', by rw [mset_no (by decide), mset_no (by decide), mset_s], mset_s, fun z => by cases z⟩⟩
  · obtain ⟨b1, b2⟩ := hb1.2.2 s (by omega)
    have hlt : s < n := by omega
    have eL := inL_eq (t := t) (n := n) (p := s) (fun _ => b1)
    have eD := inD_eq (t := t) (n := n) (p := s) (fun _ => b1)
    rw [if_pos hlt, decide_eq_true hlt, Bool.true_and] at eL eD
    rw [if_pos hlt, if_neg (nI_m (by omega) (by decide)), if_neg c0, if_neg c0, eL]
    simp only [Option.bind_some, bI_0]
    cases hL : isL (t s) with
    | true =>
      rw [ite_tf, ite_Tt, ite_Tt]
      obtain ⟨g2, u1, u2, u3⟩ := name_m (n - s) s (mset 0 12 (nI 0) (mset 0 10 (nI s) g1)) rfl hS hb3 (by rw [mset_no (by decide), mset_no (by decide)]; exact q2')
      rw [u1]
      simp only [Option.bind_some]
      refine ⟨_, rfl, But_tr c1 (But_tr bt2 (But_tr (But_up u3 (fun j hj => by unfold J7; omega)) (But_set (by unfold J7; omega) _ _))), .inr ⟨by decide, ?_, ?_, ?_, mset_s, fun z => by cases z⟩⟩
      · rw [mset_no (by decide), u3.1 7 (by decide), mset_no (by decide), mset_no (by decide)]; exact r7
      · rw [mset_no (by decide)]; exact u2
      · rw [mset_no (by decide), u3.1 10 (by decide), mset_no (by decide), mset_s]
    | false =>
      rw [ite_ff, ite_Ft, ite_Ft, eD]
      simp only [Option.bind_some, bI_0]
      cases hD : isD (t s) with
      | true =>
        rw [ite_tf, ite_Tt, ite_Tt]
        obtain ⟨g2, u1, u2, u3, u4⟩ := num_m (s := s) (n - s) s (mset 0 12 (nI 0) (mset 0 10 (nI s) g1)) rfl (Nat.le_refl s) hS hb3 (by rw [mset_no (by decide), mset_no (by decide)]; exact q2') (by rw [mset_no (by decide), mset_s]) (by rw [mset_s, Nat.sub_self]; rfl)
        rw [u1]
        simp only [Option.bind_some]
        have g1' := rn_ge (P := isD) (t := t) (n := n) s
        have g2' := rn_le (P := isD) (t := t) hS
        have w10 : g2 0 10 = nI s := by rw [u4.1 10 (by decide), mset_no (by decide), mset_s]
        have w7 : g2 0 7 = nI 0 := by rw [u4.1 7 (by decide), mset_no (by decide), mset_no (by decide)]; exact r7
        have cb : But J7 g g2 := But_tr c1 (But_tr bt2 (But_up u4 (fun j hj => by unfold J7; omega)))
        rw [u2, w10, pk_sub g1']
        by_cases h2 : rn isD t n s ≤ s + 2
        · rw [if_pos ((nI_leI (by omega) (by omega)).mpr (by omega)), if_pos h2]
          refine ⟨_, rfl, But_tr cb (But_set (by unfold J7; omega) _ _), .inr ⟨by decide, by rw [mset_no (by decide)]; exact w7, by rw [mset_no (by decide)]; exact u2, by rw [mset_no (by decide)]; exact w10, mset_s, fun _ => ?_⟩⟩
          rw [if_neg c0, hL, ite_Ft, hD, ite_Tt, if_pos h2, if_neg c0, ite_Ft, ite_Tt] at lv
          rw [mset_no (by decide), u3, Nat.min_eq_left (by omega)]
          exact (lv rfl).1
        · rw [if_neg (fun z => by have := (nI_leI (by omega) (by omega)).mp z; omega), if_neg h2, hKf _ 0 (by rw [mset_no (by decide)]; exact w7)]
          refine ⟨_, rfl, But_tr cb (But_tr (But_set (by unfold J7; omega) _ _) (But_tr (But_set (by unfold J7; omega) _ _) (But_set (by unfold J7; omega) _ _))), .inl ⟨rfl, by rw [mset_no (by decide), mset_s], ?_⟩⟩
          rw [mset_s, mset_no (by decide)]; exact w10
      | false =>
        rw [ite_ff, ite_Ft, ite_Ft, nI_add]
        have bt4 : But J7 g (mset 0 9 (nI (s + 1)) (mset 0 11 (nI 3) (mset 0 12 (nI 0) (mset 0 10 (nI s) g1)))) := But_tr c1 (But_tr bt2 (But_tr (But_set (by unfold J7; omega) _ _) (But_set (by unfold J7; omega) _ _)))
        have w7 : (mset 0 9 (nI (s + 1)) (mset 0 11 (nI 3) (mset 0 12 (nI 0) (mset 0 10 (nI s) g1)))) 0 7 = nI 0 := by rw [mset_no (by decide), mset_no (by decide), mset_no (by decide), mset_no (by decide)]; exact r7
        have w10 : (mset 0 9 (nI (s + 1)) (mset 0 11 (nI 3) (mset 0 12 (nI 0) (mset 0 10 (nI s) g1)))) 0 10 = nI s := by rw [mset_no (by decide), mset_no (by decide), mset_no (by decide), mset_s]
        by_cases h59 : t s = 59
        · rw [if_pos (by rw [h59]), if_pos h59]
          exact ⟨_, rfl, bt4, .inr ⟨by decide, w7, mset_s, w10, by rw [mset_no (by decide), mset_s], fun z => by cases z⟩⟩
        · rw [if_neg (fun z => h59 ((nI_eq (by omega) (by decide)).mp z)), if_neg h59, hKf _ 0 w7]
          refine ⟨_, rfl, But_tr bt4 (But_tr (But_set (by unfold J7; omega) _ _) (But_set (by unfold J7; omega) _ _)), .inl ⟨rfl, by rw [mset_no (by decide), mset_s], ?_⟩⟩
          rw [mset_s]; exact w10
theorem step_no {g : Mem} {c : Nat} (h : g 0 7 = nI c) (hc : 1 ≤ c) (hc6 : c ≤ 6) : p_X7_step g = some g := by
  unfold p_X7_step
  rw [h, if_neg (fun z => by have := (nI_leI (b := 0) (by omega) (by decide)).mp z; omega)]
end TXB

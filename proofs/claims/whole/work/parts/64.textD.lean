/-! ===== the text: numbers, ends of lines ===== -/
section TXD
variable {t : Nat → Nat} {n : Nat}
/-- both are ahead of the token from a place on -/
def Lk (f X g : Mem) (n : Nat) (t : Nat → Nat) (p : Nat) : Prop := f 0 1 = nI 0 ∧ BY X n t ∧ X 0 1 = nI p ∧ p ≤ n ∧ BM g n t ∧ TK g t n p
/-- both have the same fault -/
def Fdd (f g : Mem) : Prop := ∃ c q, 1 ≤ c ∧ c ≤ 6 ∧ f 0 1 = nI c ∧ f 0 2 = nI q ∧ g 0 7 = nI c ∧ g 0 8 = nI q ∧ q ≤ 160
theorem nz_c {c : Nat} (h1 : 1 ≤ c) (h6 : c ≤ 6) : ¬ nI c = 0 := fun z => by have := (nI_z (by omega)).mp z; omega
theorem Fdd_as {f g g' : Mem} (h : Fdd f g) (h7 : g' 0 7 = g 0 7) (h8 : g' 0 8 = g 0 8) : Fdd f g' := by
  obtain ⟨c, q, h1, h2, h3, h4, h5, h6, h9⟩ := h
  exact ⟨c, q, h1, h2, h3, h4, by rw [h7]; exact h5, by rw [h8]; exact h6, h9⟩
theorem Fdd_f {f g : Mem} (h : Fdd f g) : ¬ f 0 1 = 0 := by
  obtain ⟨c, q, h1, h2, h3, -⟩ := h
  rw [h3]
  exact nz_c h1 h2
theorem Fdd_g {f g : Mem} (h : Fdd f g) : ¬ g 0 7 = 0 ∧ ¬ g 0 7 ≤ 0 := by
  obtain ⟨c, q, h1, h2, -, -, h5, -⟩ := h
  rw [h5]
  exact ⟨nz_c h1 h2, fun z => by have := (nI_leI (b := 0) (by omega) (by decide)).mp z; omega⟩
theorem ref_yes {f : Mem} (h : f 0 1 = nI 0) (a b : Int32) : p_X5_refuse f a b = some (mset 0 2 b (mset 0 1 a f)) := by
  unfold p_X5_refuse
  rw [if_pos (show f 0 1 = 0 from h)]
theorem ref_no {f : Mem} (h : ¬ f 0 1 = 0) (a b : Int32) : p_X5_refuse f a b = some f := by
  unfold p_X5_refuse
  rw [if_neg h]
theorem fails_yes {g : Mem} (h : g 0 7 = nI 0) (a : Int32) : p_X7_fails g a = some (mset 0 8 (g 0 10) (mset 0 7 a g)) := by
  unfold p_X7_fails
  rw [if_pos (show g 0 7 = 0 from h)]
theorem fails_no {g : Mem} (h : ¬ g 0 7 = 0) (a : Int32) : p_X7_fails g a = some g := by
  unfold p_X7_fails
  rw [if_neg h]
theorem Fdd_new {f g : Mem} {c q : Nat} (h1 : 1 ≤ c) (h2 : c ≤ 6) (hq : q ≤ 160) {a : Int32} (ha : a = nI q) (h10 : g 0 10 = nI q) : Fdd (mset 0 2 a (mset 0 1 (nI c) f)) (mset 0 8 (g 0 10) (mset 0 7 (nI c) g)) :=
  ⟨c, q, h1, h2, by rw [mset_no (by decide), mset_s], by rw [mset_s, ha], by rw [mset_no (by decide), mset_s], by rw [mset_s, h10], hq⟩
/-- a fault ends what follows of the line -/
theorem num_no {f : Mem} (h : ¬ f 0 1 = 0) (X : Mem) (a b : Int32) : p_X5_nextNumber f X a b = some (a, f, X) := by
  unfold p_X5_nextNumber
  rw [if_neg h]
theorem end_no {f : Mem} (h : ¬ f 0 1 = 0) (X : Mem) : p_X5_isLineEnded f X = some (nI 0, f, X) := by
  unfold p_X5_isLineEnded
  rw [if_neg h]
theorem stepF {f g : Mem} (h : Fdd f g) : p_X7_step g = some g := by
  obtain ⟨c, q, h1, h2, -, -, h5, -⟩ := h
  exact step_no h5 h1 h2
theorem otherF {f g : Mem} (h : Fdd f g) (a b s : Int32) : p_X7_other g a b s = some (a, g) := by
  obtain ⟨h7, -⟩ := Fdd_g h
  unfold p_X7_other p_X7_other_B20 p_X7_other_B47 p_X7_other_B75 p_X7_other_B90
  rw [if_neg h7, if_neg h7, if_neg h7, if_neg h7, stepF h]
  rfl
theorem J7_set {j : Nat} (h1 : 7 ≤ j) (h2 : j ≤ 12) (v : Int32) (g : Mem) : But J7 g (mset 0 j v g) := But_set ⟨h1, h2⟩ v g
theorem J7_fail (a b : Int32) (g : Mem) : But J7 g (mset 0 8 b (mset 0 7 a g)) := But_tr (J7_set (by decide) (by decide) _ g) (J7_set (by decide) (by decide) _ _)
/-- a number, read by both; S: the owners that are told already -/
theorem num_both {f X g : Mem} {p : Nat} (L : Lk f X g n t p) {lo hi S : Nat} (hlo : lo ≤ hi) (hhi : hi ≤ 99) (hS : S = 0 ∨ (hi ≤ 4 ∧ S < 2 ^ 31)) :
    (∃ v X' g', lo ≤ v ∧ v ≤ hi ∧ v = lV t n p ∧ lK t n p = 2 ∧ (S = 0 ∨ S / 2 ^ v % 2 = 0) ∧ p_X5_nextNumber f X (nI lo) (nI hi) = some (nI v, f, X') ∧ X' 0 2 = nI (lS t n p) ∧ p_X7_other g (nI lo) (nI hi) (nI S) = some (nI v, g') ∧ But J7 g g' ∧ Lk f X' g' n t (lE t n p) ∧ p < lE t n p) ∨
    (∃ v X' g', lo ≤ v ∧ v ≤ hi ∧ S ≠ 0 ∧ S / 2 ^ v % 2 = 1 ∧ p_X5_nextNumber f X (nI lo) (nI hi) = some (nI v, f, X') ∧ X' 0 2 = nI (lS t n p) ∧ p_X7_other g (nI lo) (nI hi) (nI S) = some (nI lo, g') ∧ But J7 g g' ∧ g' 0 7 = nI 4 ∧ g' 0 8 = nI (lS t n p)) ∨
    ((lK t n p = 2 → ¬ (lo ≤ lV t n p ∧ lV t n p ≤ hi)) ∧ ∃ f' X' g', p_X5_nextNumber f X (nI lo) (nI hi) = some (nI lo, f', X') ∧ p_X7_other g (nI lo) (nI hi) (nI S) = some (nI lo, g') ∧ But J7 g g' ∧ Fdd f' g' ∧ (lK t n p = 4 → g' = g)) := by
  obtain ⟨hf, hX, hp1, hp, hg, hT⟩ := L
  have h160 := hX.1
  have hS1 := lS_ge t n p
  have hS2 := lS_le (t := t) hp
  obtain ⟨X', q1, q2, q3, q4, q5, q6⟩ := nextToken_eq hX hp hp1
  have hf0 : f 0 1 = 0 := hf
  rcases hT with ⟨k4, t7, t8⟩ | ⟨k4, t7, t9, t10, t11, t12⟩
  · -- no token
    refine .inr (.inr ⟨fun z => by omega, mset 0 2 (nI (lS t n p)) (mset 0 1 (nI 1) f), X', g, ?_, ?_, But_rfl _ g, ?_, fun _ => rfl⟩)
    · unfold p_X5_nextNumber p_X5_refuseOther p_X5_nextNumber_B47
      rw [if_pos hf0, q1]
      simp only [Option.bind_some]
      rw [q5, k4, if_pos rfl, ref_yes hf, q4]
      simp only [Option.bind_some]
      rw [mset_no (by decide), mset_s, if_neg (by decide), if_neg (by decide)]
    · have h7 : ¬ g 0 7 = 0 := by rw [t7]; decide
      unfold p_X7_other p_X7_other_B20 p_X7_other_B47 p_X7_other_B75 p_X7_other_B90
      rw [if_neg h7, if_neg h7, if_neg h7, if_neg h7, step_no t7 (by decide) (by decide)]
      rfl
    · exact ⟨1, lS t n p, by decide, by decide, by rw [mset_no (by decide), mset_s], mset_s, t7, t8, by omega⟩
  · have t70 : g 0 7 = 0 := t7
    have k4' : ¬ nI (lK t n p) = nI 4 := fun z => k4 ((nI_eq (by have := lK_le t n p; omega) (by decide)).mp z)
    by_cases k2 : lK t n p = 2
    · have lv := lV_nv (t := t) hp k2
      have hgt := lE_gt (t := t) hp (by omega)
      have hE := lE_le (t := t) hp
      have cls : p_X5_nextNumber f X (nI lo) (nI hi) = if lo ≤ lV t n p ∧ lV t n p ≤ hi then some (nI (lV t n p), f, X') else some (nI lo, mset 0 2 (nI (lS t n p)) (mset 0 1 (nI 3) f), X') := by
        unfold p_X5_nextNumber p_X5_refuseOther p_X5_nextNumber_B47
        rw [if_pos hf0, q1]
        simp only [Option.bind_some]
        rw [q5, if_neg k4', k2, if_pos rfl]
        simp only [Option.bind_some]
        rw [if_pos hf0, q6 k2, isWithin_eq, wi_nI (by omega) (by omega) (by omega)]
        simp only [Option.bind_some, bI_0]
        by_cases hr : lo ≤ lV t n p ∧ lV t n p ≤ hi
        · rw [if_pos hr, decide_eq_true hr.1, decide_eq_true hr.2, Bool.and_self, ite_tf, if_pos hf0]
        · rw [if_neg hr]
          have hb : (decide (lo ≤ lV t n p) && decide (lV t n p ≤ hi)) = false := by
            rw [← Bool.decide_and, decide_eq_false hr]
          rw [hb, ite_ff, ref_yes hf, q4]
          simp only [Option.bind_some]
          rw [mset_no (by decide), mset_s, if_neg (by decide)]
      have mIn : p_X7_in ((nI (lV t n p)).toInt64) ((nI lo).toInt64) ((nI hi).toInt64) = some (bI (decide (lo ≤ lV t n p) && decide (lV t n p ≤ hi))) := by
        rw [in_eq, wi_nI (by omega) (by omega) (by omega)]
      by_cases hr : lo ≤ lV t n p ∧ lV t n p ≤ hi
      · rw [if_pos hr] at cls
        rw [decide_eq_true hr.1, decide_eq_true hr.2, Bool.and_self] at mIn
        have good : (S = 0 ∨ S / 2 ^ lV t n p % 2 = 0) → ∃ g', p_X7_other g (nI lo) (nI hi) (nI S) = some (nI (lV t n p), g') ∧ But J7 g g' ∧ Lk f X' g' n t (lE t n p) := fun hs0 => by
          obtain ⟨g', u1, u2, u3⟩ := step_eq hg hE.2 t7 t9
          refine ⟨g', ?_, u2, hf, q2, q3, hE.2, BM_But hg u2 (by unfold J7; omega), u3⟩
          unfold p_X7_other p_X7_other_B20 p_X7_other_B47 p_X7_other_B75 p_X7_other_B90
          rw [if_pos t70, t11, k2, if_pos rfl, if_pos t70, t12 k2, mIn]
          simp only [Option.bind_some, bI_0]
          rw [ite_tf, if_pos t70]
          by_cases h0 : S = 0
          · rw [if_pos (show nI S = 0 by rw [h0]; rfl), if_pos t70, u1]
            rfl
          · have hs1 := hs0.resolve_left h0
            obtain ⟨h4, h31⟩ := hS.resolve_left h0
            rw [if_neg (fun z => h0 ((nI_z (by omega)).mp z)), show (nI S >>> (nI (lV t n p) &&& 31)) &&& nI 1 = bitO (nI S) (lV t n p) from rfl, bitO_nI h31 (by omega), hs1, if_neg (by decide), if_pos t70, u1]
            rfl
        by_cases h0 : S = 0
        · obtain ⟨g', u1, u2, u3⟩ := good (.inl h0)
          exact .inl ⟨lV t n p, X', g', hr.1, hr.2, rfl, k2, .inl h0, cls, q4, u1, u2, u3, by omega⟩
        · obtain ⟨h4, h31⟩ := hS.resolve_left h0
          by_cases hb : S / 2 ^ lV t n p % 2 = 0
          · obtain ⟨g', u1, u2, u3⟩ := good (.inr hb)
            exact .inl ⟨lV t n p, X', g', hr.1, hr.2, rfl, k2, .inr hb, cls, q4, u1, u2, u3, by omega⟩
          · have hb1 : S / 2 ^ lV t n p % 2 = 1 := by omega
            refine .inr (.inl ⟨lV t n p, X', mset 0 8 (nI (lS t n p)) (mset 0 7 (nI 4) g), hr.1, hr.2, h0, hb1, cls, q4, ?_, J7_fail _ _ g, by rw [mset_no (by decide), mset_s], mset_s⟩)
            have h7' : ¬ mset 0 8 (nI (lS t n p)) (mset 0 7 (nI 4) g) 0 7 = 0 := by rw [mset_no (by decide), mset_s]; decide
            unfold p_X7_other p_X7_other_B20 p_X7_other_B47
            rw [if_pos t70, t11, k2, if_pos rfl, if_pos t70, t12 k2, mIn]
            simp only [Option.bind_some, bI_0]
            rw [ite_tf, if_pos t70, if_neg (fun z => h0 ((nI_z (by omega)).mp z)), show (nI S >>> (nI (lV t n p) &&& 31)) &&& nI 1 = bitO (nI S) (lV t n p) from rfl, bitO_nI h31 (by omega), hb1, if_pos rfl, fails_yes t7, t10]
            simp only [Option.bind_some]
            unfold p_X7_other_B75 p_X7_other_B90
            rw [if_neg h7', step_no (c := 4) (by rw [mset_no (by decide), mset_s]) (by decide) (by decide)]
            rfl
      · rw [if_neg hr] at cls
        have hb : (decide (lo ≤ lV t n p) && decide (lV t n p ≤ hi)) = false := by
          rw [← Bool.decide_and, decide_eq_false hr]
        rw [hb] at mIn
        refine .inr (.inr ⟨fun _ => hr, _, X', mset 0 8 (g 0 10) (mset 0 7 (nI 3) g), cls, ?_, J7_fail _ _ g, Fdd_new (by decide) (by decide) (by omega) rfl t10, fun z => by omega⟩)
        have fd : Fdd (mset 0 2 (nI (lS t n p)) (mset 0 1 (nI 3) f)) (mset 0 8 (g 0 10) (mset 0 7 (nI 3) g)) := Fdd_new (by decide) (by decide) (by omega) rfl t10
        obtain ⟨h7', -⟩ := Fdd_g fd
        unfold p_X7_other p_X7_other_B20
        rw [if_pos t70, t11, k2, if_pos rfl, if_pos t70, t12 k2, mIn]
        simp only [Option.bind_some, bI_0]
        rw [if_pos trivial, fails_yes t7]
        simp only [Option.bind_some]
        unfold p_X7_other_B47 p_X7_other_B75 p_X7_other_B90
        rw [if_neg h7', if_neg h7', stepF fd]
        rfl
    · have k2' : ¬ nI (lK t n p) = nI 2 := fun z => k2 ((nI_eq (by have := lK_le t n p; omega) (by decide)).mp z)
      have fd : Fdd (mset 0 2 (nI (lS t n p)) (mset 0 1 (nI 2) f)) (mset 0 8 (g 0 10) (mset 0 7 (nI 2) g)) := Fdd_new (by decide) (by decide) (by omega) rfl t10
      obtain ⟨h7', -⟩ := Fdd_g fd
      refine .inr (.inr ⟨fun z => absurd z k2, _, X', mset 0 8 (g 0 10) (mset 0 7 (nI 2) g), ?_, ?_, J7_fail _ _ g, fd, fun z => absurd z k4⟩)
      · unfold p_X5_nextNumber p_X5_refuseOther p_X5_nextNumber_B47
        rw [if_pos hf0, q1]
        simp only [Option.bind_some]
        rw [q5, if_neg k4', if_neg k2', ref_yes hf, q4]
        simp only [Option.bind_some]
        rw [mset_no (by decide), mset_s, if_neg (by decide), if_neg (by decide)]
      · unfold p_X7_other
        rw [if_pos t70, t11, if_neg k2', fails_yes t7]
        simp only [Option.bind_some]
        unfold p_X7_other_B20 p_X7_other_B47 p_X7_other_B75 p_X7_other_B90
        rw [if_neg h7', if_neg h7', if_neg h7', stepF fd]
        rfl
/-- a number, with nothing told already -/
theorem num0 {f X g : Mem} {p : Nat} (L : Lk f X g n t p) {lo hi : Nat} (hlo : lo ≤ hi) (hhi : hi ≤ 99) :
    (∃ v X' g', lo ≤ v ∧ v ≤ hi ∧ v = lV t n p ∧ lK t n p = 2 ∧ p_X5_nextNumber f X (nI lo) (nI hi) = some (nI v, f, X') ∧ X' 0 2 = nI (lS t n p) ∧ p_X7_other g (nI lo) (nI hi) (nI 0) = some (nI v, g') ∧ But J7 g g' ∧ Lk f X' g' n t (lE t n p) ∧ p < lE t n p) ∨
    ((lK t n p = 2 → ¬ (lo ≤ lV t n p ∧ lV t n p ≤ hi)) ∧ ∃ f' X' g', p_X5_nextNumber f X (nI lo) (nI hi) = some (nI lo, f', X') ∧ p_X7_other g (nI lo) (nI hi) (nI 0) = some (nI lo, g') ∧ But J7 g g' ∧ Fdd f' g' ∧ (lK t n p = 4 → g' = g)) := by
  rcases num_both L (S := 0) hlo hhi (.inl rfl) with ⟨v, X', g', h1, h2, h3, h4, -, h5, h6, h7, h8, h9⟩ | ⟨v, X', g', h1, h2, h3, -⟩ | h
  · exact .inl ⟨v, X', g', h1, h2, h3, h4, h5, h6, h7, h8, h9⟩
  · exact absurd rfl h3
  · exact .inr h
/-- the model's end of a line -/
noncomputable def tl (g : Mem) : Option Mem :=
  if (g 0 7) = 0 then
    (if (g 0 11) = (nI 3) then
      (p_X7_readLine_B96 g)
    else
      (Option.bind (p_X7_fails g (nI 2)) <| fun f_93 =>
       p_X7_readLine_B96 f_93))
  else
    (p_X7_readLine_B96 g)
theorem tlF {f g : Mem} (h : Fdd f g) : tl g = some g := by
  unfold tl p_X7_readLine_B96
  rw [if_neg (Fdd_g h).1, stepF h]
  rfl
theorem end_both {f X g : Mem} {p : Nat} (L : Lk f X g n t p) :
    (∃ X' g', p_X5_isLineEnded f X = some (nI 1, f, X') ∧ tl g = some g' ∧ But J7 g g' ∧ Lk f X' g' n t (lE t n p) ∧ p < lE t n p) ∨
    (∃ f' X' g', p_X5_isLineEnded f X = some (nI 0, f', X') ∧ tl g = some g' ∧ But J7 g g' ∧ Fdd f' g') := by
  obtain ⟨hf, hX, hp1, hp, hg, hT⟩ := L
  have h160 := hX.1
  have hS1 := lS_ge t n p
  have hS2 := lS_le (t := t) hp
  obtain ⟨X', q1, q2, q3, q4, q5, q6⟩ := nextToken_eq hX hp hp1
  have hf0 : f 0 1 = 0 := hf
  rcases hT with ⟨k4, t7, t8⟩ | ⟨k4, t7, t9, t10, t11, t12⟩
  · refine .inr ⟨mset 0 2 (nI (lS t n p)) (mset 0 1 (nI 1) f), X', g, ?_, ?_, But_rfl _ g, ?_⟩
    · unfold p_X5_isLineEnded p_X5_refuseOther
      rw [if_pos hf0, q1]
      simp only [Option.bind_some]
      rw [q5, k4, if_pos rfl, ref_yes hf, q4]
      simp only [Option.bind_some]
      rw [mset_no (by decide), mset_s, if_neg (by decide)]
    · unfold tl p_X7_readLine_B96
      rw [if_neg (by rw [t7]; decide), step_no t7 (by decide) (by decide)]
      rfl
    · exact ⟨1, lS t n p, by decide, by decide, by rw [mset_no (by decide), mset_s], mset_s, t7, t8, by omega⟩
  · have t70 : g 0 7 = 0 := t7
    have k4' : ¬ nI (lK t n p) = nI 4 := fun z => k4 ((nI_eq (by have := lK_le t n p; omega) (by decide)).mp z)
    by_cases k3 : lK t n p = 3
    · have hgt := lE_gt (t := t) hp (by omega)
      have hE := lE_le (t := t) hp
      obtain ⟨g', u1, u2, u3⟩ := step_eq hg hE.2 t7 t9
      refine .inl ⟨X', g', ?_, ?_, u2, ⟨hf, q2, q3, hE.2, BM_But hg u2 (by unfold J7; omega), u3⟩, by omega⟩
      · unfold p_X5_isLineEnded p_X5_refuseOther
        rw [if_pos hf0, q1]
        simp only [Option.bind_some]
        rw [q5, if_neg k4', k3, if_pos rfl]
        simp only [Option.bind_some]
        rw [if_pos hf0]
      · unfold tl p_X7_readLine_B96
        rw [if_pos t70, t11, k3, if_pos rfl, u1]
        rfl
    · have k3' : ¬ nI (lK t n p) = nI 3 := fun z => k3 ((nI_eq (by have := lK_le t n p; omega) (by decide)).mp z)
      have fd : Fdd (mset 0 2 (nI (lS t n p)) (mset 0 1 (nI 2) f)) (mset 0 8 (g 0 10) (mset 0 7 (nI 2) g)) := Fdd_new (by decide) (by decide) (by omega) rfl t10
      refine .inr ⟨_, X', mset 0 8 (g 0 10) (mset 0 7 (nI 2) g), ?_, ?_, J7_fail _ _ g, fd⟩
      · unfold p_X5_isLineEnded p_X5_refuseOther
        rw [if_pos hf0, q1]
        simp only [Option.bind_some]
        rw [q5, if_neg k4', if_neg k3', ref_yes hf, q4]
        simp only [Option.bind_some]
        rw [mset_no (by decide), mset_s, if_neg (by decide)]
      · unfold tl p_X7_readLine_B96
        rw [if_pos t70, t11, if_neg k3', fails_yes t7]
        simp only [Option.bind_some]
        rw [stepF fd]
        rfl
end TXD

/-! ===== pure side: tests and trades on a page of the model ===== -/
theorem in_eq (x a b : Int32) : p_X7_in x.toInt64 a.toInt64 b.toInt64 = some (bI (wi x a b)) := by
  unfold p_X7_in wi
  by_cases h1 : x < a
  · rw [if_pos ((lg_cmp_lt _ _).mpr (Int32.toInt64_lt.mpr h1)), decide_eq_false (Int32.not_le.mpr h1)]; rfl
  · rw [if_neg (fun z => h1 (Int32.toInt64_lt.mp ((lg_cmp_lt _ _).mp z))), decide_eq_true (Int32.not_lt.mp h1)]
    by_cases h2 : b < x
    · rw [if_pos ((lg_cmp_gt _ _).mpr (Int32.toInt64_lt.mpr h2)), decide_eq_false (Int32.not_le.mpr h2)]; rfl
    · rw [if_neg (fun z => h2 (Int32.toInt64_lt.mp ((lg_cmp_gt _ _).mp z))), decide_eq_true (Int32.not_lt.mp h2)]; rfl
theorem in_c {x : Int32} {p q : Int64} (a b : Nat) (hp : (nI a).toInt64 = p) (hq : (nI b).toInt64 = q) : p_X7_in x.toInt64 p q = some (bI (wi x (nI a) (nI b))) := by
  subst hp hq
  exact in_eq _ _ _
theorem in_c0 {x : Int32} {q : Int64} (b : Nat) (hq : (nI b).toInt64 = q) : p_X7_in x.toInt64 (lN 0) q = some (bI (wi x (nI 0) (nI b))) := in_c 0 b rfl hq
theorem in_c1 {x : Int32} {q : Int64} (b : Nat) (hq : (nI b).toInt64 = q) : p_X7_in x.toInt64 (lN 1) q = some (bI (wi x (nI 1) (nI b))) := in_c 1 b (by decide) hq
theorem in_c01 {x : Int32} : p_X7_in x.toInt64 (lN 0) (lN 1) = some (bI (wi x (nI 0) (nI 1))) := in_c 0 1 rfl (by decide)
theorem in_0 (x b : Int32) : p_X7_in x.toInt64 (lN 0) b.toInt64 = some (bI (wi x (nI 0) b)) := in_eq x (nI 0) b
theorem isGoose_eq {g : Mem} {n : Nat} (h : g 0 0 = nI n) (x : Int32) : p_X7_isGoose g x = some (bI (hasG n x)) := by
  unfold p_X7_isGoose hasG
  rw [in_0, h]
  rfl
theorem isOwnerM_eq (x : Int32) : p_X7_isOwner x = some (bI (wi x (nI 0) (nI 4))) := by
  unfold p_X7_isOwner
  rw [in_c0 4 (by decide)]
  rfl
theorem isTradeM_eq {g : Mem} {A : Fk} (h : g 0 0 = nI (A 0 0)) (x1 x2 x3 x4 : Int32) : p_X7_isTrade g x1 x2 x3 x4 = some (bI (isT A x1 x2 x3 x4)) := by
  unfold p_X7_isTrade isT
  rw [isOwnerM_eq, isOwnerM_eq, isGoose_eq h, in_c1 9 (by decide)]
  simp only [Option.bind_some, bI_0]
  cases wi x1 (nI 0) (nI 4) <;> cases wi x2 (nI 0) (nI 4) <;> cases hasG (A 0 0) x3 <;> cases wi x4 (nI 1) (nI 9) <;> by_cases hx : x1 = x2 <;> simp [hx, bI]
theorem zb_bI (c : Bool) : zb (bI c) = true := by cases c <;> decide
theorem plucksOn_eq {g : Mem} {pg : Nat} {A : Fk} (h : MS g pg A) (hk : okF A) (hp : pg ≤ 300) {b s k n : Nat} (hb : b < 5) (hs : s < 5) (hg : k < A 0 0) (hn : n < 1000) : ∃ g', p_X7_plucksOn g (nI pg) (nI b) (nI s) (nI k) (nI n) = some (bI (canP A b s k n), g') ∧ MS g' pg (if canP A b s k n = true then moveF A b s k n else A) ∧ Fr pg g g' := by
  have h3 := hk.1.1
  have l1 := sh_le hk hg hs
  have l2 := sh_le hk hg hb
  have no : p_X7_plucksOn_B33 g (nI pg) (nI b) (nI s) (nI k) (nI n) = some (bI false, g) := by
    unfold p_X7_plucksOn_B33 p_X7_plucksOn_B34
    rw [if_pos (show nI 0 = 0 from rfl), gd_t (by decide)]
    rfl
  unfold p_X7_plucksOn
  rw [shareOn_eq h hp (by omega) hs]
  simp only [Option.bind_some]
  by_cases h1 : n ≤ sh A k s
  · rw [if_neg (fun z => by have := (nI_ltI (by omega) (by omega)).mp z; omega), shareOn_eq h hp (by omega) hb]
    simp only [Option.bind_some]
    rw [nI_add]
    by_cases h2 : sh A k b + n ≤ 99
    · have hc : canP A b s k n = true := by unfold canP; rw [decide_eq_true h1, decide_eq_true h2]; rfl
      rw [if_neg (fun z => by have := (nI_ltI (by omega) (by omega)).mp z; omega), hc, if_pos rfl]
      have M1 : MS (mrow 1 (upd (g 1) (pg + 19 + 5 * k + s) (nI (sh A k s - n))) g) pg (tkF A s k n) := by
        rw [show pg + 19 + 5 * k + s = pg + sl 4 (k * 5 + s) by simp only [sl_1, sl_2, sl_3, sl_4, sl_5, sl_6, sl_01, sl_02]; omega]
        exact MS_upd hk.1 h (by unfold dm; omega) (by omega) rfl
      have F1 : Fr pg g (mrow 1 (upd (g 1) (pg + 19 + 5 * k + s) (nI (sh A k s - n))) g) := by
        rw [show pg + 19 + 5 * k + s = pg + (19 + 5 * k + s) by omega]
        exact Fr_upd (by omega)
      generalize hg1 : upd (g 1) (pg + 19 + 5 * k + s) (nI (sh A k s - n)) = r1 at M1 F1
      have er : mrow 1 r1 g 1 = r1 := by rw [mrow_at, if_pos rfl]
      have M2 : MS (mrow 1 (upd r1 (pg + 19 + 5 * k + b) (nI (sh (tkF A s k n) k b + n))) (mrow 1 r1 g)) pg (moveF A b s k n) := by
        rw [show pg + 19 + 5 * k + b = pg + sl 4 (k * 5 + b) by simp only [sl_1, sl_2, sl_3, sl_4, sl_5, sl_6, sl_01, sl_02]; omega]
        have := MS_upd (i := 4) (j := k * 5 + b) (n := sh (tkF A s k n) k b + n) (A := tkF A s k n) hk.1 M1 (by unfold dm; omega) (by omega) rfl
        rw [er] at this
        exact this
      have F2 : Fr pg (mrow 1 r1 g) (mrow 1 (upd r1 (pg + 19 + 5 * k + b) (nI (sh (tkF A s k n) k b + n))) (mrow 1 r1 g)) := by
        rw [show pg + 19 + 5 * k + b = pg + (19 + 5 * k + b) by omega]
        have := Fr_upd (pg := pg) (g := mrow 1 r1 g) (k := 19 + 5 * k + b) (v := nI (sh (tkF A s k n) k b + n)) (by omega)
        rw [er] at this
        exact this
      have eb : r1 (pg + 19 + 5 * k + b) = nI (sh (tkF A s k n) k b) := by
        have := MS_share M1 (show k < 3 by omega) hb
        rw [er] at this
        exact this
      refine ⟨_, ?_, M2, Fr_tr F1 F2⟩
      unfold p_X7_plucksOn_B34
      rw [if_neg (by decide), pk_mul, nI_add, nI_add, nI_add, nI_add, gd_t (inb_nI (by omega) (by decide)), gd_t (inb_nI (by omega) (by decide)), nI_clamp (by omega), MS_share h (show k < 3 by omega) hs, pk_sub h1, hg1]
      unfold bnd
      dsimp only
      rw [gd_t (inb_nI (by omega) (by decide)), gd_t (inb_nI (by omega) (by decide)), nI_clamp (by omega), eb, nI_add, gd_t (by decide)]
      rfl
    · have hc : canP A b s k n = false := by unfold canP; rw [decide_eq_false h2, Bool.and_false]
      rw [if_pos ((nI_ltI (by omega) (by omega)).mpr (by omega)), hc, no]
      exact ⟨g, rfl, by simpa using h, Fr_rfl pg g⟩
  · have hc : canP A b s k n = false := by unfold canP; rw [decide_eq_false h1, Bool.false_and]
    rw [if_pos ((nI_ltI (by omega) (by omega)).mpr (by omega)), hc, no]
    exact ⟨g, rfl, by simpa using h, Fr_rfl pg g⟩
theorem mv_sub (x y z : Int32) : x - y - z = x - z - y := by rw [Int32.sub_sub, Int32.add_comm, ← Int32.sub_sub]
theorem mv_add (x y z : Int32) : x - y + z = x + z - y := by rw [Int32.sub_eq_add_neg, Int32.sub_eq_add_neg, Int32.add_assoc, Int32.add_comm (-y) z, ← Int32.add_assoc]
theorem pay_on {g : Mem} {pg : Nat} {B : Fk} (h : MS g pg B) (hk : B 0 0 ≤ 3 ∧ B 0 2 ≤ 6) (hp : pg ≤ 300) {b s c : Nat} (hb : b < 5) (hs : s < 5) (hc : c ≤ B 5 b) : ∃ g', p_X7_buysOn_B62 g (nI pg) (nI b) (nI s) (nI c) (nI 1) = some (nI 1, g') ∧ MS g' pg (payF B b s c) ∧ Fr pg g g' := by
  have M1 : MS (mrow 1 (upd (g 1) (pg + 9 + b) (nI (B 5 b - c) - nI 20)) g) pg (paid B b c) := by
    rw [show pg + 9 + b = pg + sl 5 b by simp only [sl_1, sl_2, sl_3, sl_4, sl_5, sl_6, sl_01, sl_02]; omega]
    exact MS_upd hk h (by unfold dm; omega) (by omega) rfl
  have F1 : Fr pg g (mrow 1 (upd (g 1) (pg + 9 + b) (nI (B 5 b - c) - nI 20)) g) := by
    rw [show pg + 9 + b = pg + (9 + b) by omega]
    exact Fr_upd (by omega)
  generalize hg1 : upd (g 1) (pg + 9 + b) (nI (B 5 b - c) - nI 20) = r1 at M1 F1
  have er : mrow 1 r1 g 1 = r1 := by rw [mrow_at, if_pos rfl]
  have M2 : MS (mrow 1 (upd r1 (pg + 9 + s) (nI (paid B b c 5 s + c) - nI 20)) (mrow 1 r1 g)) pg (payF B b s c) := by
    rw [show pg + 9 + s = pg + sl 5 s by simp only [sl_1, sl_2, sl_3, sl_4, sl_5, sl_6, sl_01, sl_02]; omega]
    have := MS_upd (i := 5) (j := s) (n := paid B b c 5 s + c) (v := nI (paid B b c 5 s + c) - nI 20) (A := paid B b c) hk M1 (by unfold dm; omega) (by omega) rfl
    rw [er] at this
    exact this
  have F2 : Fr pg (mrow 1 r1 g) (mrow 1 (upd r1 (pg + 9 + s) (nI (paid B b c 5 s + c) - nI 20)) (mrow 1 r1 g)) := by
    rw [show pg + 9 + s = pg + (9 + s) by omega]
    have := Fr_upd (pg := pg) (g := mrow 1 r1 g) (k := 9 + s) (v := nI (paid B b c 5 s + c) - nI 20) (by omega)
    rw [er] at this
    exact this
  have eb : r1 (pg + 9 + s) = nI (paid B b c 5 s) - nI 20 := by
    have := MS_money M1 hs
    rw [er] at this
    exact this
  refine ⟨_, ?_, M2, Fr_tr F1 F2⟩
  unfold p_X7_buysOn_B62
  rw [if_neg (by decide), nI_add, nI_add, nI_add, gd_t (inb_nI (by omega) (by decide)), gd_t (inb_nI (by omega) (by decide)), nI_clamp (by omega), MS_money h hb, mv_sub, pk_sub hc, hg1]
  unfold bnd
  dsimp only
  rw [gd_t (inb_nI (by omega) (by decide)), gd_t (inb_nI (by omega) (by decide)), nI_clamp (by omega), eb, mv_add, nI_add, gd_t (by decide)]
theorem buysOn_eq {g : Mem} {pg : Nat} {A : Fk} (h : MS g pg A) (hk : okF A) (hp : pg ≤ 300) {b s k n : Nat} (hb : b < 5) (hs : s < 5) (hg : k < A 0 0) (hn : n < 1000) : ∃ g', p_X7_buysOn g (nI pg) (nI b) (nI s) (nI k) (nI n) = some (bI (canT A b s k n), g') ∧ MS g' pg (if canT A b s k n = true then exch A b s k n else A) ∧ Fr pg g g' := by
  have h3 := hk.1.1
  have hpr := (hk.2.1 k hg).2.2.2
  have m1 := hk.2.2.2.1 b hb
  have m2 := hk.2.2.2.1 s hs
  have l3 : n * A 3 k ≤ 1000 * 9 := Nat.mul_le_mul (by omega) hpr
  have no : ∀ g' : Mem, p_X7_buysOn_B61 g' (nI pg) (nI b) (nI s) (nI (n * A 3 k)) = some (bI false, g') := fun g' => by
    unfold p_X7_buysOn_B61 p_X7_buysOn_B62
    rw [if_pos (show nI 0 = 0 from rfl), gd_t (by decide)]
    rfl
  unfold p_X7_buysOn
  rw [nI_add, nI_add, gd_t (inb_nI (by omega) (by decide)), moneyOn_eq h hp hb, nI_clamp (by omega), MS_price h hg h3, pk_mul]
  simp only [Option.bind_some]
  by_cases h1 : n * A 3 k ≤ A 5 b
  · rw [if_neg (fun z => by have := (nI_ltI (by omega) (by omega)).mp z; omega), moneyOn_eq h hp hs]
    simp only [Option.bind_some]
    rw [nI_add]
    by_cases h2 : A 5 s + n * A 3 k ≤ 999
    · rw [if_neg (fun z => by have := (nI_ltI (by omega) (by omega)).mp z; omega)]
      obtain ⟨g1, q1, q2, q3⟩ := plucksOn_eq h hk hp hb hs hg hn
      have hct : canT A b s k n = canP A b s k n := by unfold canT; rw [decide_eq_true h1, decide_eq_true h2, Bool.and_true, Bool.and_true]
      rw [q1, hct]
      simp only [Option.bind_some]
      cases hc : canP A b s k n with
      | false =>
        rw [hc] at q2
        rw [if_pos ((bI_0 _).mpr rfl), no]
        exact ⟨g1, rfl, q2, q3⟩
      | true =>
        rw [hc, if_pos rfl] at q2
        rw [if_neg (fun z => by cases (bI_0 _).mp z), if_pos rfl]
        obtain ⟨g2, r1, r2, r3⟩ := pay_on q2 ⟨by rw [moveF_ne (by decide)]; exact h3, by rw [moveF_ne (by decide)]; exact hk.1.2⟩ hp hb hs (c := n * A 3 k) (by rw [moveF_ne (by decide)]; exact h1)
        exact ⟨g2, r1, r2, Fr_tr q3 r3⟩
    · have hct : canT A b s k n = false := by unfold canT; rw [decide_eq_false h2, Bool.and_false]
      rw [if_pos ((nI_ltI (by omega) (by omega)).mpr (by omega)), hct, no]
      exact ⟨g, rfl, by simpa using h, Fr_rfl pg g⟩
  · have hct : canT A b s k n = false := by unfold canT; rw [decide_eq_false h1, Bool.and_false, Bool.false_and]
    rw [if_pos ((nI_ltI (by omega) (by omega)).mpr (by omega)), hct, no]
    exact ⟨g, rfl, by simpa using h, Fr_rfl pg g⟩

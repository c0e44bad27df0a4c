/-! ===== rows of trades: codes, ranks ===== -/
section OPSI
variable {x0 x1 x2 x3 x4 x5 x6 x7 x8 s0 s1 s2 s3 g : Mem} {A : Fk}
theorem exch_cf {b s k n : Nat} (hb : b < 5) (hs : s < 5) (hbs : b ≠ s) (i j : Nat) : exch A b s k n i j = if i = 4 then (if j = k * 5 + b then A 4 j + n else if j = k * 5 + s then A 4 j - n else A 4 j) else if i = 5 then (if j = s then A 5 j + n * A 3 k else if j = b then A 5 j - n * A 3 k else A 5 j) else A i j := by
  by_cases h4 : i = 4
  · subst h4
    rw [if_pos rfl]
    have e : exch A b s k n 4 j = moveF A b s k n 4 j := payF_ne (by decide)
    rw [e]
    unfold moveF tkF
    by_cases hj : j = k * 5 + b
    · subst hj
      rw [fset_at, fset_no (by omega), if_pos rfl]
    · rw [fset_no hj, if_neg hj]
      by_cases hj2 : j = k * 5 + s
      · subst hj2
        rw [fset_at, if_pos rfl]
      · rw [fset_no hj2, if_neg hj2]
  · rw [if_neg h4]
    by_cases h5 : i = 5
    · subst h5
      rw [if_pos rfl]
      unfold exch payF paid
      by_cases hj : j = s
      · subst hj
        rw [fset_at, fset_no (by omega), if_pos rfl, moveF_ne (by decide)]
      · rw [fset_no hj, if_neg hj]
        by_cases hj2 : j = b
        · subst hj2
          rw [fset_at, if_pos rfl, moveF_ne (by decide)]
        · rw [fset_no hj2, if_neg hj2, moveF_ne (by decide)]
    · rw [if_neg h5, exch_45 h4 h5]
def vC (A : Fk) (o c : Nat) : Bool := canI A (nI o) (nI (c / 100)) (nI (c / 10 % 10)) (nI (c % 10))
def xC (A : Fk) (o c : Nat) : Fk := exch A o (c / 100) (c / 10 % 10) (c % 10)
theorem vC_of (hk : okF A) {o c : Nat} (ho : o < 5) (hc : c < 500) (h : vC A o c = true) : o ≠ c / 100 ∧ c / 10 % 10 < A 0 0 ∧ 1 ≤ c % 10 ∧ canT A o (c / 100) (c / 10 % 10) (c % 10) = true := by
  have h3 := hk.1.1
  unfold vC at h
  have h0 := h
  unfold canI at h0
  rw [Bool.and_eq_true] at h0
  obtain ⟨b, s, k, n, e1, e2, e3, e4, hb, hs, hbs, hg, hn1, hn⟩ := isT_of hk h0.1
  have f1 := (nI_eq (by omega) (by omega)).mp e1
  have f2 := (nI_eq (by omega) (by omega)).mp e2
  have f3 := (nI_eq (by omega) (by omega)).mp e3
  have f4 := (nI_eq (by omega) (by omega)).mp e4
  rw [f1, f2, f3, f4] at h ⊢
  rw [canI_nI h3 hb hs hbs hg hn1 hn] at h
  exact ⟨hbs, hg, hn1, h⟩
theorem vC_iff (hk : okF A) {o c : Nat} (ho : o < 5) (hc : c < 500) : vC A o c = true ↔ o ≠ c / 100 ∧ c / 10 % 10 < A 0 0 ∧ 1 ≤ c % 10 ∧ canT A o (c / 100) (c / 10 % 10) (c % 10) = true := by
  refine ⟨vC_of hk ho hc, fun h => ?_⟩
  unfold vC
  rw [canI_nI hk.1.1 ho (by omega) h.1 h.2.1 h.2.2.1 (by omega)]
  exact h.2.2.2
theorem okF_xC (hk : okF A) {o c : Nat} (ho : o < 5) (hc : c < 500) (h : vC A o c = true) : okF (xC A o c) := by
  obtain ⟨h1, h2, h3, h4⟩ := vC_of hk ho hc h
  exact okF_exch hk ho (by omega) h1 h2 h4
theorem xC_00 (A : Fk) (o c : Nat) : xC A o c 0 0 = A 0 0 := exch_45 (by decide) (by decide)
theorem xC_comm (hk : okF A) {o c d : Nat} (ho : o < 5) (hc : c < 500) (hd : d < 500) (h1 : o ≠ c / 100) (h2 : o ≠ d / 100) : xC (xC A o c) o d = xC (xC A o d) o c := by
  funext i j
  unfold xC
  rw [exch_cf ho (by omega) h2, exch_cf ho (by omega) h1 i j, exch_cf ho (by omega) h1 4 j, exch_cf ho (by omega) h1 5 j, exch_cf ho (by omega) h1 3 _, exch_cf ho (by omega) h1 i j, exch_cf ho (by omega) h2 4 j, exch_cf ho (by omega) h2 5 j, exch_cf ho (by omega) h2 3 _, exch_cf ho (by omega) h2 i j]
  simp only [if_pos, if_neg (show ¬ (5 : Nat) = 4 by decide), if_neg (show ¬ (3 : Nat) = 4 by decide), if_neg (show ¬ (3 : Nat) = 5 by decide)]
  by_cases h4 : i = 4
  · rw [if_pos h4, if_pos h4]
    repeat' split
    all_goals omega
  · rw [if_neg h4, if_neg h4]
    by_cases h5 : i = 5
    · rw [if_pos h5, if_pos h5]
      repeat' split
      all_goals omega
    · rw [if_neg h5, if_neg h5, if_neg h4, if_neg h5, if_neg h4, if_neg h5]
theorem canT_iff (A : Fk) (b s k n : Nat) : canT A b s k n = true ↔ n ≤ A 4 (k * 5 + s) ∧ A 4 (k * 5 + b) + n ≤ 99 ∧ n * A 3 k ≤ A 5 b ∧ A 5 s + n * A 3 k ≤ 999 := by
  unfold canT canP sh
  simp only [Bool.and_eq_true, decide_eq_true_eq]
  constructor
  · rintro ⟨⟨⟨q1, q2⟩, q3⟩, q4⟩; exact ⟨q1, q2, q3, q4⟩
  · rintro ⟨q1, q2, q3, q4⟩; exact ⟨⟨⟨q1, q2⟩, q3⟩, q4⟩
theorem swap_ar {A : Fk} {o s1 g1 n1 s2 g2 n2 : Nat} (ho : o < 5) (hs1 : s1 < 5) (hs2 : s2 < 5) (a1 : o ≠ s1) (b1 : o ≠ s2) (a4 : canT A o s1 g1 n1 = true) (b4 : canT (exch A o s1 g1 n1) o s2 g2 n2 = true) : canT A o s2 g2 n2 = true ∧ canT (exch A o s2 g2 n2) o s1 g1 n1 = true := by
  rw [canT_iff] at a4 b4
  rw [canT_iff, canT_iff]
  rw [exch_cf ho hs1 a1 4, exch_cf ho hs1 a1 4, exch_cf ho hs1 a1 3, exch_cf ho hs1 a1 5, exch_cf ho hs1 a1 5] at b4
  rw [exch_cf ho hs2 b1 4, exch_cf ho hs2 b1 4, exch_cf ho hs2 b1 3, exch_cf ho hs2 b1 5, exch_cf ho hs2 b1 5]
  simp only [if_pos, if_neg (show ¬ (5 : Nat) = 4 by decide), if_neg (show ¬ (3 : Nat) = 4 by decide), if_neg (show ¬ (3 : Nat) = 5 by decide)] at b4 ⊢
  obtain ⟨c1, c2, c3, c4⟩ := a4
  obtain ⟨p1, p2, p3, p4⟩ := b4
  rw [if_neg (show ¬ g2 * 5 + s2 = g1 * 5 + o by omega)] at p1
  rw [if_neg (show ¬ g2 * 5 + o = g1 * 5 + s1 by omega)] at p2
  rw [if_neg a1] at p3
  rw [if_neg (show ¬ s2 = o by omega)] at p4
  rw [if_neg (show ¬ g1 * 5 + s1 = g2 * 5 + o by omega), if_neg (show ¬ g1 * 5 + o = g2 * 5 + s2 by omega), if_neg b1, if_neg (show ¬ s1 = o by omega)]
  generalize n1 * A 3 g1 = k1 at *
  generalize n2 * A 3 g2 = k2 at *
  refine ⟨⟨?_, ?_, ?_, ?_⟩, ?_, ?_, ?_, ?_⟩
  · split at p1 <;> omega
  · split at p2 <;> omega
  · omega
  · split at p4 <;> omega
  · by_cases e : g1 * 5 + s1 = g2 * 5 + s2
    · rw [if_pos e]
      rw [if_pos e.symm, ← e] at p1
      omega
    · rw [if_neg e]; exact c1
  · by_cases e : g1 * 5 + o = g2 * 5 + o
    · rw [if_pos e]
      rw [if_pos e.symm, ← e] at p2
      omega
    · rw [if_neg e]; exact c2
  · omega
  · by_cases e : s1 = s2
    · rw [if_pos e]
      rw [if_pos e.symm, ← e] at p4
      omega
    · rw [if_neg e]; exact c4
theorem vC_swap (hk : okF A) {o c d : Nat} (ho : o < 5) (hc : c < 500) (hd : d < 500) (h1 : vC A o c = true) (h2 : vC (xC A o c) o d = true) : vC A o d = true ∧ vC (xC A o d) o c = true := by
  have k1 := okF_xC hk ho hc h1
  obtain ⟨a1, a2, a3, a4⟩ := vC_of hk ho hc h1
  obtain ⟨b1, b2, b3, b4⟩ := vC_of k1 ho hd h2
  rw [xC_00] at b2
  obtain ⟨r1, r2⟩ := swap_ar ho (show c / 100 < 5 by omega) (show d / 100 < 5 by omega) a1 b1 a4 b4
  have v1 : vC A o d = true := (vC_iff hk ho hd).mpr ⟨b1, b2, b3, r1⟩
  exact ⟨v1, (vC_iff (okF_xC hk ho hd v1) ho hc).mpr ⟨a1, by rw [xC_00]; exact a2, a3, r2⟩⟩
theorem xC_money {A : Fk} {o c : Nat} (ho : o < 5) (hc : c < 500) (h1 : o ≠ c / 100) : xC A o c 5 o ≤ A 5 o := by
  unfold xC
  rw [exch_cf ho (by omega) h1, if_neg (by decide), if_pos rfl, if_neg h1, if_pos rfl]
  omega
/-- in how many geese an owner has the egg -/
def gcN (B : Fk) (o : Nat) : Nat := sumN (fun i => if bitO (eggsI B o) i = nI 1 then 1 else 0) 5
theorem gcN_le (B : Fk) (o : Nat) : gcN B o ≤ 5 := by
  have := sumN_le (f := fun i => if bitO (eggsI B o) i = nI 1 then 1 else 0) (m := 1) 5 (fun i _ => by split <;> omega)
  unfold gcN
  omega
theorem gcN_c {B : Fk} (hk : okF B) (o : Nat) : p_J6_bitCount_0f7a4 (eggsI B o) = some (nI (gcN B o)) := bitCount_eq _ (by have := hk.1.1; omega)
/-- the rank of a row: the least is the best -/
def rk (ge mo le fi se : Nat) : Nat := (((5 - ge) * 1000 + mo) * 3 + le) * 250000 + fi * 500 + se
def ST (a b c d e : Int32) (r : Nat) : Prop := ∃ ge mo le fi se, ge ≤ 5 ∧ mo ≤ 999 ∧ le ≤ 2 ∧ fi < 500 ∧ se < 500 ∧ r = rk ge mo le fi se ∧ a = nI ge ∧ b = nI mo ∧ c = nI le ∧ d = (if le = 0 then -4 else nI fi) ∧ e = (if le < 2 then -4 else nI se)
theorem rk_inj {g1 m1 l1 f1 e1 g2 m2 l2 f2 e2 : Nat} (h1 : g1 ≤ 5) (h2 : m1 ≤ 999) (h3 : l1 ≤ 2) (h4 : f1 < 500) (h5 : e1 < 500) (k1 : g2 ≤ 5) (k2 : m2 ≤ 999) (k3 : l2 ≤ 2) (k4 : f2 < 500) (k5 : e2 < 500) (h : rk g1 m1 l1 f1 e1 = rk g2 m2 l2 f2 e2) : g1 = g2 ∧ m1 = m2 ∧ l1 = l2 ∧ f1 = f2 ∧ e1 = e2 := by
  unfold rk at h
  omega
theorem ST_det {a b c d e a' b' c' d' e' : Int32} {r : Nat} (h : ST a b c d e r) (k : ST a' b' c' d' e' r) : a = a' ∧ b = b' ∧ c = c' ∧ d = d' ∧ e = e' := by
  obtain ⟨g1, m1, l1, f1, e1, q1, q2, q3, q4, q5, q6, rfl, rfl, rfl, rfl, rfl⟩ := h
  obtain ⟨g2, m2, l2, f2, e2, p1, p2, p3, p4, p5, p6, rfl, rfl, rfl, rfl, rfl⟩ := k
  obtain ⟨rfl, rfl, rfl, rfl, rfl⟩ := rk_inj q1 q2 q3 q4 q5 p1 p2 p3 p4 p5 (q6.symm.trans p6)
  exact ⟨rfl, rfl, rfl, rfl, rfl⟩
theorem mset_self (i j : Nat) (f : Mem) : mset i j (f i j) f = f := by
  funext a b
  rw [mset_at]
  by_cases ha : a = i
  · subst ha
    rw [if_pos rfl]
    unfold upd
    by_cases hb : b = j
    · subst hb; rw [if_pos rfl]
    · rw [if_neg hb]
  · rw [if_neg ha]
theorem cmp_no (f : Mem) (y3 y4 y5 y6 y7 : Int32) : p_X7_compares_B58 f y3 y4 y5 y6 y7 (nI 0) = some f := by
  have z : nI 0 = 0 := rfl
  unfold p_X7_compares_B58 p_X7_compares_B75 p_X7_compares_B93 p_X7_compares_B110 p_X7_compares_B128 p_X7_compares_B146
  simp only [if_pos z, mset_self]
theorem cmp_yes (f : Mem) (y3 y4 y5 y6 y7 : Int32) : p_X7_compares_B58 f y3 y4 y5 y6 y7 (nI 1) = some (mset 0 20 y5 (mset 0 19 y4 (mset 0 18 y3 (mset 0 17 y7 (mset 0 16 y6 f))))) := by
  have z : ¬ nI 1 = 0 := by decide
  unfold p_X7_compares_B58 p_X7_compares_B75 p_X7_compares_B93 p_X7_compares_B110 p_X7_compares_B128 p_X7_compares_B146
  simp only [if_neg z]
/-- the memory but for what is best -/
def KB (f f' : Mem) : Prop := (∀ i, i ≠ 0 → f' i = f i) ∧ ∀ j, j < 16 ∨ 20 < j → f' 0 j = f 0 j
theorem KB_rfl (f : Mem) : KB f f := ⟨fun _ _ => rfl, fun _ _ => rfl⟩
theorem KB_set (f : Mem) (y3 y4 y5 y6 y7 : Int32) : KB f (mset 0 20 y5 (mset 0 19 y4 (mset 0 18 y3 (mset 0 17 y7 (mset 0 16 y6 f))))) :=
  ⟨fun i hi => by rw [mset_ne hi, mset_ne hi, mset_ne hi, mset_ne hi, mset_ne hi], fun j hj => by rw [mset_no (by omega), mset_no (by omega), mset_no (by omega), mset_no (by omega), mset_no (by omega)]⟩
def STm (f : Mem) (r : Nat) : Prop := ST (f 0 16) (f 0 17) (f 0 18) (f 0 19) (f 0 20) r
theorem STm_set (f : Mem) {ge mo le fi se : Nat} (h1 : ge ≤ 5) (h2 : mo ≤ 999) (h3 : le ≤ 2) (h4 : fi < 500) (h5 : se < 500) : STm (mset 0 20 (if le < 2 then -4 else nI se) (mset 0 19 (if le = 0 then -4 else nI fi) (mset 0 18 (nI le) (mset 0 17 (nI mo) (mset 0 16 (nI ge) f))))) (rk ge mo le fi se) := by
  refine ⟨ge, mo, le, fi, se, h1, h2, h3, h4, h5, rfl, ?_, ?_, ?_, ?_, mset_s⟩
  · rw [mset_no (by decide), mset_no (by decide), mset_no (by decide), mset_no (by decide), mset_s]
  · rw [mset_no (by decide), mset_no (by decide), mset_no (by decide), mset_s]
  · rw [mset_no (by decide), mset_no (by decide), mset_s]
  · rw [mset_no (by decide), mset_s]
/-- a row is weighed by the model -/
theorem compares_eq {f : Mem} {B : Fk} {pg o le fi se r : Nat} (h0 : MS f 0 A) (hkA : okF A) (hm : MS f pg B) (hk : okF B) (hp : pg ≤ 300) (ho : o < 5) (hle : B 5 o ≤ A 5 o) (h3 : le ≤ 2) (h4 : fi < 500) (h5 : se < 500) (hs : STm f r) (hl : r % 750000 < le * 250000 + fi * 500 + se) : ∃ f', p_X7_compares f (nI pg) (nI o) (nI le) (if le = 0 then -4 else nI fi) (if le < 2 then -4 else nI se) = some f' ∧ STm f' (min r (rk (gcN B o) (A 5 o - B 5 o) le fi se)) ∧ KB f f' := by
  have m1 := hkA.2.2.2.1 o ho
  have gl := gcN_le B o
  obtain ⟨g1, m2, l1, f1, e1, q1, q2, q3, q4, q5, q6, t1, t2, t3, t4, t5⟩ := hs
  have hs0 : STm f r := ⟨g1, m2, l1, f1, e1, q1, q2, q3, q4, q5, q6, t1, t2, t3, t4, t5⟩
  unfold p_X7_compares
  rw [eggsNow_eq hm hk hp ho]
  simp only [Option.bind_some]
  rw [bitsOf_eq, moneyOn_eq h0 (by decide) ho, moneyOn_eq hm hp ho]
  simp only [Option.bind_some]
  rw [show sumN (fun i => if bitO (eggsI B o) i = nI 1 then 1 else 0) 5 = gcN B o from rfl, t1, t2, pk_sub hle]
  have yes : g1 < gcN B o ∨ (gcN B o = g1 ∧ A 5 o - B 5 o < m2) → STm (mset 0 20 (if le < 2 then -4 else nI se) (mset 0 19 (if le = 0 then -4 else nI fi) (mset 0 18 (nI le) (mset 0 17 (nI (A 5 o - B 5 o)) (mset 0 16 (nI (gcN B o)) f))))) (min r (rk (gcN B o) (A 5 o - B 5 o) le fi se)) := fun hb => by
    have e : min r (rk (gcN B o) (A 5 o - B 5 o) le fi se) = rk (gcN B o) (A 5 o - B 5 o) le fi se := by
      rw [q6]
      unfold rk
      omega
    rw [e]
    exact STm_set f gl (by omega) h3 h4 h5
  have no : ¬ (g1 < gcN B o ∨ (gcN B o = g1 ∧ A 5 o - B 5 o < m2)) → min r (rk (gcN B o) (A 5 o - B 5 o) le fi se) = r := fun hb => by
    rw [q6] at hl ⊢
    unfold rk at hl ⊢
    omega
  by_cases c1 : g1 < gcN B o
  · rw [if_pos ((nI_ltI (by omega) (by omega)).mpr c1), cmp_yes]
    exact ⟨_, rfl, yes (.inl c1), KB_set f _ _ _ _ _⟩
  · rw [if_neg (fun z => c1 ((nI_ltI (by omega) (by omega)).mp z))]
    by_cases c2 : gcN B o = g1
    · rw [if_pos (by rw [c2])]
      by_cases c3 : m2 ≤ A 5 o - B 5 o
      · rw [if_pos ((nI_leI (by omega) (by omega)).mpr c3)]
        unfold p_X7_compares_B57
        rw [cmp_no, no (by omega)]
        exact ⟨f, rfl, hs0, KB_rfl f⟩
      · rw [if_neg (fun z => c3 ((nI_leI (by omega) (by omega)).mp z)), cmp_yes]
        exact ⟨_, rfl, yes (.inr ⟨c2, by omega⟩), KB_set f _ _ _ _ _⟩
    · rw [if_neg (fun z => c2 ((nI_eq (by omega) (by omega)).mp z))]
      unfold p_X7_compares_B57
      rw [cmp_no, no (by omega)]
      exact ⟨f, rfl, hs0, KB_rfl f⟩
/-- the first row is weighed by the model -/
theorem compares_0 {f : Mem} {o : Nat} (h0 : MS f 0 A) (hk : okF A) (ho : o < 5) (h16 : f 0 16 = -1) : ∃ f', p_X7_compares f (nI 0) (nI o) (nI 0) (-4) (-4) = some f' ∧ STm f' (rk (gcN A o) 0 0 0 0) ∧ KB f f' := by
  have gl := gcN_le A o
  unfold p_X7_compares
  rw [eggsNow_eq h0 hk (by decide) ho]
  simp only [Option.bind_some]
  rw [bitsOf_eq, moneyOn_eq h0 (by decide) ho]
  simp only [Option.bind_some]
  rw [show sumN (fun i => if bitO (eggsI A o) i = nI 1 then 1 else 0) 5 = gcN A o from rfl, h16, pk_sub (Nat.le_refl _), Nat.sub_self]
  have hlt : (-1 : Int32) < nI (gcN A o) := by
    have h : ∀ n, n < 6 → (-1 : Int32) < nI n := by decide
    exact h _ (by omega)
  rw [if_pos hlt, cmp_yes]
  exact ⟨_, rfl, STm_set f (le := 0) (fi := 0) (se := 0) gl (by decide) (by decide) (by decide) (by decide), KB_set f _ _ _ _ _⟩
end OPSI

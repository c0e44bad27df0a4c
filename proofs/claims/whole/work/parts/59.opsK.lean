/-! ===== rows of trades: the class's search ===== -/
section OPSK
variable {x0 x1 x2 x3 x4 x5 x6 x7 x8 s0 s1 s2 s3 g : Mem} {A : Fk}
theorem neg_m (n : Nat) : (-1 : Int32) * nI n = -nI n := by rw [Int32.neg_mul, Int32.one_mul]
theorem sub_m (a n : Nat) : nI a - -nI n = nI (a + n) := by rw [Int32.sub_neg, nI_add]
theorem add_m {a n : Nat} (h : n ≤ a) : nI a + -nI n = nI (a - n) := by rw [Int32.add_neg_eq_sub, pk_sub h]
theorem mrow2 (i : Nat) (a b : Nat → Int32) (f : Mem) : mrow i a (mrow i b f) = mrow i a f := by
  funext j
  rw [mrow_at, mrow_at, mrow_at]
  split <;> rfl
/-- a trade that was made is taken back -/
theorem undo_eq {f : Mem} {B : Fk} {b s k n : Nat} (hk : okF B) (hb : b < 5) (hs : s < 5) (hbs : b ≠ s) (hg : k < B 0 0) (hc : canT B b s k n = true) (h : enc f (exch B b s k n)) : ∃ f', p_X0_exchange f (nI b) (nI s) (nI k) ((-1 : Int32) * nI n) = some f' ∧ enc f' B := by
  have h3 := hk.1.1
  rw [canT_iff] at hc
  obtain ⟨c1, c2, c3, c4⟩ := hc
  have cf : ∀ i j, exch B b s k n i j = _ := fun i j => exch_cf hb hs hbs i j
  have v4 : ∀ j, j < 15 → f 4 j = nI (if j = k * 5 + b then B 4 j + n else if j = k * 5 + s then B 4 j - n else B 4 j) := fun j hj => by rw [h.2.2.1 j hj, cf, if_pos rfl]
  have v5 : ∀ j, j < 5 → f 5 j = nI (if j = s then B 5 j + n * B 3 k else if j = b then B 5 j - n * B 3 k else B 5 j) := fun j hj => by rw [(h.2.2.2.1 j hj).1, cf, if_neg (by decide), if_pos rfl]
  have v3 : f 3 k = nI (B 3 k) := by rw [(h.2.1 k (by rw [cf, if_neg (by decide), if_neg (by decide)]; exact hg)).2.2, cf, if_neg (by decide), if_neg (by decide)]
  have a1 : f 4 (k * 5 + s) = nI (B 4 (k * 5 + s) - n) := by rw [v4 _ (by omega), if_neg (by omega), if_pos rfl]
  have a2 : f 4 (k * 5 + b) = nI (B 4 (k * 5 + b) + n) := by rw [v4 _ (by omega), if_pos rfl]
  have a3 : f 5 b = nI (B 5 b - n * B 3 k) := by rw [v5 _ hb, if_neg hbs, if_pos rfl]
  have a4 : f 5 s = nI (B 5 s + n * B 3 k) := by rw [v5 _ hs, if_pos rfl]
  have w4 : ∀ j, j < 15 → upd (upd (f 4) (k * 5 + s) (nI (B 4 (k * 5 + s)))) (k * 5 + b) (nI (B 4 (k * 5 + b))) j = nI (B 4 j) := fun j hj => by
    by_cases j1 : j = k * 5 + b
    · subst j1; exact pk_us
    · rw [pk_un j1]
      by_cases j2 : j = k * 5 + s
      · subst j2; exact pk_us
      · rw [pk_un j2, v4 j hj, if_neg j1, if_neg j2]
  have w5 : ∀ j, j < 5 → upd (upd (f 5) b (nI (B 5 b))) s (nI (B 5 s)) j = nI (B 5 j) := fun j hj => by
    by_cases j1 : j = s
    · subst j1; exact pk_us
    · rw [pk_un j1]
      by_cases j2 : j = b
      · subst j2; exact pk_us
      · rw [pk_un j2, v5 j hj, if_neg j1, if_neg j2]
  have mE : p_X0_moveFeathers f (nI b) (nI s) (nI k) (-nI n) = some (mrow 4 (upd (upd (f 4) (k * 5 + s) (nI (B 4 (k * 5 + s)))) (k * 5 + b) (nI (B 4 (k * 5 + b)))) (mrow 4 (upd (f 4) (k * 5 + s) (nI (B 4 (k * 5 + s)))) f)) := by
    unfold p_X0_moveFeathers
    rw [pk_mul, nI_add, nI_add, gd_t (inb_nI (by omega) (by decide)), gd_t (inb_nI (by omega) (by decide)), nI_clamp (by omega), nI_clamp (by omega), a1, sub_m, Nat.sub_add_cancel c1]
    unfold bnd
    dsimp only
    rw [gd_t (inb_nI (by omega) (by decide)), gd_t (inb_nI (by omega) (by decide)), pk_un (by omega), a2, add_m (by omega), Nat.add_sub_cancel]
  refine ⟨mrow 5 (upd (upd (f 5) b (nI (B 5 b))) s (nI (B 5 s))) (mrow 4 (upd (upd (f 4) (k * 5 + s) (nI (B 4 (k * 5 + s)))) (k * 5 + b) (nI (B 4 (k * 5 + b)))) f), ?_, ?_⟩
  · unfold p_X0_exchange
    rw [neg_m, mE]
    simp only [Option.bind_some]
    rw [mrow2, mrow_ne (show 5 ≠ 4 by decide), mrow_ne (show 3 ≠ 4 by decide), gd_t (inb_nI hb (by decide)), gd_t (inb_nI (show k < 3 by omega) (by decide)), gd_t (inb_nI hb (by decide)), nI_clamp (show b < 2 ^ 31 by omega), nI_clamp (show k < 2 ^ 31 by omega), nI_clamp (show s < 2 ^ 31 by omega), v3, Int32.neg_mul, pk_mul, a3, sub_m, Nat.sub_add_cancel c3]
    unfold bnd
    dsimp only
    rw [gd_t (inb_nI hs (by decide)), gd_t (inb_nI (show k < 3 by omega) (by decide)), gd_t (inb_nI hs (by decide)), pk_un (show s ≠ b by omega), a4, add_m (by omega), Nat.add_sub_cancel, mrow2]
  · have e4 : enc (mrow 4 (upd (upd (f 4) (k * 5 + s) (nI (B 4 (k * 5 + s)))) (k * 5 + b) (nI (B 4 (k * 5 + b)))) f) (fun i j => if i = 4 then B 4 j else exch B b s k n i j) :=
      enc_row4 h (fun j hj => by rw [if_pos rfl]; exact w4 j hj) (fun i j hi => if_neg hi)
    refine enc_row5 (B := B) e4 w5 (fun i j hi => ?_)
    by_cases h4 : i = 4
    · subst h4; rw [if_pos rfl]
    · rw [if_neg h4, cf, if_neg h4, if_neg hi]
def STc (f : Mem) (r : Nat) : Prop := ST (f 0 2) (f 0 3) (f 0 4) (f 0 5) (f 0 6) r
/-- the search's memory but for what is best -/
def KC (f f' : Mem) : Prop := (∀ i, i ≠ 0 → f' i = f i) ∧ f' 0 0 = f 0 0 ∧ f' 0 1 = f 0 1
theorem KC_rfl (f : Mem) : KC f f := ⟨fun _ _ => rfl, rfl, rfl⟩
theorem KC_tr {a b c : Mem} (h : KC a b) (k : KC b c) : KC a c := ⟨fun i hi => (k.1 i hi).trans (h.1 i hi), k.2.1.trans h.2.1, k.2.2.trans h.2.2⟩
theorem STc_set (f : Mem) {ge mo le fi se : Nat} (h1 : ge ≤ 5) (h2 : mo ≤ 999) (h3 : le ≤ 2) (h4 : fi < 500) (h5 : se < 500) : STc (mset 0 6 (if le < 2 then -4 else nI se) (mset 0 5 (if le = 0 then -4 else nI fi) (mset 0 4 (nI le) (mset 0 3 (nI mo) (mset 0 2 (nI ge) f))))) (rk ge mo le fi se) := by
  refine ⟨ge, mo, le, fi, se, h1, h2, h3, h4, h5, rfl, ?_, ?_, ?_, ?_, mset_s⟩
  · rw [mset_no (by decide), mset_no (by decide), mset_no (by decide), mset_no (by decide), mset_s]
  · rw [mset_no (by decide), mset_no (by decide), mset_no (by decide), mset_s]
  · rw [mset_no (by decide), mset_no (by decide), mset_s]
  · rw [mset_no (by decide), mset_s]
theorem KC_set (f : Mem) (y3 y4 y5 y6 y7 : Int32) : KC f (mset 0 6 y5 (mset 0 5 y4 (mset 0 4 y3 (mset 0 3 y7 (mset 0 2 y6 f))))) :=
  ⟨fun i hi => by rw [mset_ne hi, mset_ne hi, mset_ne hi, mset_ne hi, mset_ne hi], by rw [mset_no (by decide), mset_no (by decide), mset_no (by decide), mset_no (by decide), mset_no (by decide)], by rw [mset_no (by decide), mset_no (by decide), mset_no (by decide), mset_no (by decide), mset_no (by decide)]⟩
/-- a row is weighed by the class -/
theorem weigh_eq {f ff fo : Mem} {B : Fk} {o le fi se r : Nat} (hb : f 0 1 = nI o) (h0 : enc fo A) (hkA : okF A) (h : enc ff B) (hk : okF B) (ho : o < 5) (hle : B 5 o ≤ A 5 o) (h3 : le ≤ 2) (h4 : fi < 500) (h5 : se < 500) (hs : STc f r) (hl : r / 250000 = rk (gcN B o) (A 5 o - B 5 o) le fi se / 250000 → r < rk (gcN B o) (A 5 o - B 5 o) le fi se) : ∃ f', p_X1_weigh f ff fo (nI le) (if le = 0 then -4 else nI fi) (if le < 2 then -4 else nI se) = some f' ∧ STc f' (min r (rk (gcN B o) (A 5 o - B 5 o) le fi se)) ∧ KC f f' := by
  have m1 := hkA.2.2.2.1 o ho
  have gl := gcN_le B o
  obtain ⟨g1, m2, l1, f1, e1, q1, q2, q3, q4, q5, q6, t1, t2, t3, t4, t5⟩ := hs
  have hs0 : STc f r := ⟨g1, m2, l1, f1, e1, q1, q2, q3, q4, q5, q6, t1, t2, t3, t4, t5⟩
  unfold p_X1_weigh
  rw [hb, geeseWithEggOf_eq h hk ho]
  simp only [Option.bind_some]
  rw [gcN_c hk]
  simp only [Option.bind_some]
  rw [gd_t (inb_nI ho (by decide)), gd_t (inb_nI ho (by decide)), nI_clamp (by omega), (h0.2.2.2.1 o ho).1, (h.2.2.2.1 o ho).1, pk_sub hle]
  have yes : g1 < gcN B o ∨ (gcN B o = g1 ∧ (A 5 o - B 5 o < m2 ∨ (A 5 o - B 5 o = m2 ∧ le < l1))) → STc (mset 0 6 (if le < 2 then -4 else nI se) (mset 0 5 (if le = 0 then -4 else nI fi) (mset 0 4 (nI le) (mset 0 3 (nI (A 5 o - B 5 o)) (mset 0 2 (nI (gcN B o)) f))))) (min r (rk (gcN B o) (A 5 o - B 5 o) le fi se)) := fun hb => by
    have e : min r (rk (gcN B o) (A 5 o - B 5 o) le fi se) = rk (gcN B o) (A 5 o - B 5 o) le fi se := by
      rw [q6]
      unfold rk
      omega
    rw [e]
    exact STc_set f gl (by omega) h3 h4 h5
  have no : ¬ (g1 < gcN B o ∨ (gcN B o = g1 ∧ (A 5 o - B 5 o < m2 ∨ (A 5 o - B 5 o = m2 ∧ le < l1)))) → min r (rk (gcN B o) (A 5 o - B 5 o) le fi se) = r := fun hb => by
    by_cases he : r / 250000 = rk (gcN B o) (A 5 o - B 5 o) le fi se / 250000
    · have := hl he
      omega
    · rw [q6] at he ⊢
      unfold rk at he ⊢
      omega
  have tst : p_X1_isBetter f (nI (gcN B o)) (nI (A 5 o - B 5 o)) (nI le) = some (bI (decide (g1 < gcN B o ∨ (gcN B o = g1 ∧ (A 5 o - B 5 o < m2 ∨ (A 5 o - B 5 o = m2 ∧ le < l1)))))) := by
    unfold p_X1_isBetter
    rw [t1, t2, t3]
    by_cases c1 : gcN B o = g1
    · rw [if_pos (by rw [c1])]
      by_cases c2 : A 5 o - B 5 o < m2
      · rw [if_pos ((nI_ltI (by omega) (by omega)).mpr c2), decide_eq_true (by omega)]; rfl
      · rw [if_neg (fun z => c2 ((nI_ltI (by omega) (by omega)).mp z))]
        by_cases c3 : A 5 o - B 5 o = m2
        · rw [if_pos (by rw [c3])]
          by_cases c4 : l1 ≤ le
          · rw [if_pos ((nI_leI (by omega) (by omega)).mpr c4), decide_eq_false (by omega)]; rfl
          · rw [if_neg (fun z => c4 ((nI_leI (by omega) (by omega)).mp z)), decide_eq_true (by omega)]; rfl
        · rw [if_neg (fun z => c3 ((nI_eq (by omega) (by omega)).mp z)), decide_eq_false (by omega)]; rfl
    · rw [if_neg (fun z => c1 ((nI_eq (by omega) (by omega)).mp z))]
      by_cases c2 : gcN B o ≤ g1
      · rw [if_pos ((nI_leI (by omega) (by omega)).mpr c2), decide_eq_false (by omega)]; rfl
      · rw [if_neg (fun z => c2 ((nI_leI (by omega) (by omega)).mp z)), decide_eq_true (by omega)]; rfl
  rw [tst]
  simp only [Option.bind_some, bI_0]
  by_cases hY : g1 < gcN B o ∨ (gcN B o = g1 ∧ (A 5 o - B 5 o < m2 ∨ (A 5 o - B 5 o = m2 ∧ le < l1)))
  · rw [decide_eq_true hY, ite_tf]
    exact ⟨_, rfl, yes hY, KC_set f _ _ _ _ _⟩
  · rw [decide_eq_false hY, ite_ff, no hY]
    exact ⟨f, rfl, hs0, KC_rfl f⟩
theorem make_eq {f ff : Mem} {B : Fk} {o c : Nat} (hb : f 0 1 = nI o) (h : enc ff B) (hk : okF B) (ho : o < 5) (hc : c < 500) (hv : vC B o c = true) : ∃ f', p_X1_make f ff (nI c) (nI 1) = some f' ∧ enc f' (xC B o c) := by
  obtain ⟨h1, h2, h3, h4⟩ := vC_of hk ho hc hv
  have h4' := h4
  rw [canT_iff] at h4'
  obtain ⟨f', q1, q2⟩ := exchange_eq h hk ho (show c / 100 < 5 by omega) h2 (n := c % 10) h4'.1 h4'.2.2.1
  refine ⟨f', ?_, q2⟩
  have d1 : nI c / nI 100 = nI (c / 100) := pk_div (by omega) (by decide) (by decide)
  have d2 : (nI c / nI 10) - (nI c / nI 10) / nI 10 * nI 10 = nI (c / 10 % 10) := by rw [pk_div (by omega) (by decide) (by decide), pk_rem (by omega) (by decide) (by decide)]
  have d3 : nI c - nI c / nI 10 * nI 10 = nI (c % 10) := pk_rem (by omega) (by decide) (by decide)
  unfold p_X1_make p_X1_sellerOf p_X1_gooseOf p_X1_amountOf
  simp only [Option.bind_some]
  rw [hb, d1, d2, d3, pk_mul, Nat.one_mul, q1]
  rfl
theorem unmake_eq {f ff : Mem} {B : Fk} {o c : Nat} (hb : f 0 1 = nI o) (hk : okF B) (ho : o < 5) (hc : c < 500) (hv : vC B o c = true) (h : enc ff (xC B o c)) : ∃ f', p_X1_make f ff (nI c) (-1) = some f' ∧ enc f' B := by
  obtain ⟨h1, h2, h3, h4⟩ := vC_of hk ho hc hv
  obtain ⟨f', q1, q2⟩ := undo_eq hk ho (show c / 100 < 5 by omega) h1 h2 h4 h
  refine ⟨f', ?_, q2⟩
  have d1 : nI c / nI 100 = nI (c / 100) := pk_div (by omega) (by decide) (by decide)
  have d2 : (nI c / nI 10) - (nI c / nI 10) / nI 10 * nI 10 = nI (c / 10 % 10) := by rw [pk_div (by omega) (by decide) (by decide), pk_rem (by omega) (by decide) (by decide)]
  have d3 : nI c - nI c / nI 10 * nI 10 = nI (c % 10) := pk_rem (by omega) (by decide) (by decide)
  unfold p_X1_make p_X1_sellerOf p_X1_gooseOf p_X1_amountOf
  simp only [Option.bind_some]
  rw [hb, d1, d2, d3, q1]
  rfl
/-- the codes of trades that can be, below a bound, as they are listed -/
def CL (A : Fk) (o : Nat) (f : Mem) (K b : Nat) : Prop := f 0 0 = nI K ∧ f 0 1 = nI o ∧ ∃ cl : Nat → Nat, (∀ i, i < K → f 1 i = nI (cl i) ∧ cl i < 500 ∧ vC A o (cl i) = true ∧ cl i < b) ∧ (∀ i j, i < j → j < K → cl i < cl j) ∧ ∀ c, c < b → c < 500 → vC A o c = true → ∃ i, i < K ∧ cl i = c
theorem CL_up {f : Mem} {o K b b' : Nat} (h : CL A o f K b) (hb : b ≤ b') (hn : ∀ c, b ≤ c → c < b' → c < 500 → vC A o c = false) : CL A o f K b' := by
  obtain ⟨h1, h2, cl, h3, h4, h5⟩ := h
  refine ⟨h1, h2, cl, fun i hi => ?_, h4, fun c hc hc5 hv => ?_⟩
  · obtain ⟨q1, q2, q3, q4⟩ := h3 i hi
    exact ⟨q1, q2, q3, by omega⟩
  · rcases Nat.lt_or_ge c b with hcb | hcb
    · exact h5 c hcb hc5 hv
    · rw [hn c hcb hc hc5] at hv
      cases hv
theorem CL_put {f : Mem} {o K b : Nat} (hK : K < 135) (h : CL A o f K b) (hb : b < 500) (hv : vC A o b = true) : CL A o (mset 0 0 (nI (K + 1)) (mrow 1 (upd (f 1) K (nI b)) f)) (K + 1) (b + 1) := by
  obtain ⟨h1, h2, cl, h3, h4, h5⟩ := h
  refine ⟨mset_s, by rw [mset_no (by decide), mrow_ne (by decide)]; exact h2, fun i => if i = K then b else cl i, fun i hi => ?_, fun i j hij hj => ?_, fun c hc hc5 hvc => ?_⟩
  · rw [mset_ne (by decide), mrow_s]
    by_cases hiK : i = K
    · subst hiK
      dsimp only
      rw [if_pos rfl, pk_us]
      exact ⟨rfl, hb, hv, by omega⟩
    · obtain ⟨q1, q2, q3, q4⟩ := h3 i (by omega)
      dsimp only
      rw [if_neg hiK, pk_un hiK]
      exact ⟨q1, q2, q3, by omega⟩
  · dsimp only
    rw [if_neg (by omega)]
    by_cases hjK : j = K
    · rw [if_pos hjK]
      exact (h3 i (by omega)).2.2.2
    · rw [if_neg hjK]
      exact h4 i j hij (by omega)
  · by_cases hcb : c = b
    · exact ⟨K, by omega, by dsimp only; rw [if_pos rfl, hcb]⟩
    · obtain ⟨i, hi, e⟩ := h5 c (by omega) hc5 hvc
      exact ⟨i, by omega, by dsimp only; rw [if_neg (by omega), e]⟩
theorem vC_no (hk : okF A) {o c : Nat} (ho : o < 5) (hc : c < 500) (h : o = c / 100 ∨ A 0 0 ≤ c / 10 % 10 ∨ c % 10 = 0) : vC A o c = false := by
  cases hv : vC A o c with
  | false => rfl
  | true =>
    obtain ⟨h1, h2, h3, -⟩ := vC_of hk ho hc hv
    omega
/-- other numbers of the search stay as the codes are listed -/
def KL (f f' : Mem) : Prop := ∀ j, 1 ≤ j → f' 0 j = f 0 j
theorem list27 {ff f : Mem} (h : enc ff A) (hk : okF A) {o s k K : Nat} (ho : o < 5) (hs : s < 5) (hg : k < A 0 0) (hc : CL A o f K (100 * s + 10 * k + 1)) (hK : K ≤ (s * 3 + k) * 9) : ∃ f' K', lp (p_X1_listCodes_L27 ff (nI s) (nI k)) (nI 1, f) = some f' ∧ CL A o f' K' (100 * s + 10 * k + 11) ∧ K' ≤ (s * 3 + k) * 9 + 9 ∧ KL f f' := by
  have h3 := hk.1.1
  obtain ⟨x, hx, hQ⟩ := lp_ex (b := p_X1_listCodes_L27 ff (nI s) (nI k)) (I := fun i z => z.1 = nI (i + 1) ∧ KL f z.2 ∧ ∃ K', K' ≤ (s * 3 + k) * 9 + i ∧ CL A o z.2 K' (100 * s + 10 * k + (i + 1))) (Q := fun z => KL f z ∧ ∃ K', K' ≤ (s * 3 + k) * 9 + 9 ∧ CL A o z K' (100 * s + 10 * k + 11)) 9
    (fun i hi z hz => by
      obtain ⟨z1, z2⟩ := z
      obtain ⟨rfl, e1, K', e2, e3⟩ := hz
      dsimp only at e1 e3
      have b5 : 100 * s + 10 * k + (i + 1) < 500 := by omega
      have d1 : (100 * s + 10 * k + (i + 1)) / 100 = s := by omega
      have d2 : (100 * s + 10 * k + (i + 1)) / 10 % 10 = k := by omega
      have d3 : (100 * s + 10 * k + (i + 1)) % 10 = i + 1 := by omega
      have skip : vC A o (100 * s + 10 * k + (i + 1)) = false → CL A o z2 K' (100 * s + 10 * k + (i + 1 + 1)) := fun hv => CL_up e3 (by omega) (fun c h1 h2 h5 => by
        have : c = 100 * s + 10 * k + (i + 1) := by omega
        subst this
        exact hv)
      unfold p_X1_listCodes_L27
      dsimp only
      rw [if_neg (fun z => by have := (nI_ltI (by decide) (by omega)).mp z; omega), e3.2.1]
      by_cases hso : s = o
      · rw [if_pos (by rw [hso]), nI_add]
        exact ⟨_, rfl, rfl, e1, K', by omega, skip (vC_no hk ho b5 (.inl (by omega)))⟩
      · rw [if_neg (fun z => hso ((nI_eq (by omega) (by omega)).mp z)), canTrade_eq h hk ho hs hg (by omega)]
        simp only [Option.bind_some, bI_0]
        have hvc : vC A o (100 * s + 10 * k + (i + 1)) = canT A o s k (i + 1) := by
          unfold vC
          rw [d1, d2, d3]
          exact canI_nI h3 ho hs (by omega) hg (by omega) (by omega)
        cases hct : canT A o s k (i + 1) with
        | false =>
          rw [ite_ff, nI_add]
          exact ⟨_, rfl, rfl, e1, K', by omega, skip (by rw [hvc]; exact hct)⟩
        | true =>
          have kb : K' < 135 := by omega
          rw [ite_tf, e3.1, gd_t (inb_nI kb (by decide)), nI_clamp (by omega), pk_mul, pk_mul, nI_add, nI_add, nI_add, nI_add]
          refine ⟨_, rfl, rfl, fun j hj => ?_, K' + 1, by omega, CL_put kb e3 b5 (by rw [hvc]; exact hct)⟩
          dsimp only
          rw [mset_no (by omega), mrow_ne (by decide)]
          exact e1 j hj)
    (fun z hz => by
      obtain ⟨z1, z2⟩ := z
      obtain ⟨rfl, e1, K', e2, e3⟩ := hz
      refine ⟨z2, ?_, e1, K', e2, CL_up e3 (by omega) (fun c h1 h2 h5 => vC_no hk ho h5 (.inr (.inr (by omega))))⟩
      unfold p_X1_listCodes_L27
      dsimp only
      rw [if_pos (by decide)]) (i := 0) (s := (nI 1, f)) (by omega) ⟨rfl, fun _ _ => rfl, K, hK, hc⟩
  obtain ⟨h1, K', h2, h3⟩ := hQ
  exact ⟨x, K', hx, h3, h2, h1⟩
theorem list14 {ff f : Mem} (h : enc ff A) (hk : okF A) {o s K : Nat} (ho : o < 5) (hs : s < 5) (hc : CL A o f K (100 * s + 1)) (hK : K ≤ s * 27) : ∃ f' K', lp (p_X1_listCodes_L14 ff (nI s)) (nI 0, f) = some f' ∧ CL A o f' K' (100 * (s + 1) + 1) ∧ K' ≤ (s + 1) * 27 ∧ KL f f' := by
  have h3 := hk.1.1
  obtain ⟨x, hx, hQ⟩ := lp_ex (b := p_X1_listCodes_L14 ff (nI s)) (I := fun i z => z.1 = nI i ∧ KL f z.2 ∧ ∃ K', K' ≤ (s * 3 + i) * 9 ∧ CL A o z.2 K' (100 * s + 10 * i + 1)) (Q := fun z => KL f z ∧ ∃ K', K' ≤ (s + 1) * 27 ∧ CL A o z K' (100 * (s + 1) + 1)) (A 0 0)
    (fun i hi z hz => by
      obtain ⟨z1, z2⟩ := z
      obtain ⟨rfl, e1, K', e2, e3⟩ := hz
      dsimp only at e1 e3
      obtain ⟨f', K2, q1, q2, q3, q4⟩ := list27 h hk ho hs hi e3 e2
      refine ⟨(nI (i + 1), f'), ?_, rfl, fun j hj => (q4 j hj).trans (e1 j hj), K2, by omega, by rw [show 100 * s + 10 * (i + 1) + 1 = 100 * s + 10 * i + 11 by omega]; exact q2⟩
      unfold p_X1_listCodes_L14
      dsimp only
      rw [h.1.1, if_neg (nI_ge hi (geese_lt hk)), q1]
      simp only [Option.bind_some]
      rw [nI_add])
    (fun z hz => by
      obtain ⟨z1, z2⟩ := z
      obtain ⟨rfl, e1, K', e2, e3⟩ := hz
      refine ⟨z2, ?_, e1, K', by omega, CL_up e3 (by omega) (fun c h1 h2 h5 => vC_no hk ho h5 (by omega))⟩
      unfold p_X1_listCodes_L14
      dsimp only
      rw [h.1.1, if_pos (Int32.le_refl _)]) (i := 0) (s := (nI 0, f)) (by omega) ⟨rfl, fun _ _ => rfl, K, by omega, hc⟩
  obtain ⟨h1, K', h2, h3⟩ := hQ
  exact ⟨x, K', hx, h3, h2, h1⟩
theorem listCodes_eq {ff f : Mem} (h : enc ff A) (hk : okF A) {o : Nat} (ho : o < 5) (hb : f 0 1 = nI o) : ∃ f' K', p_X1_listCodes f ff = some f' ∧ CL A o f' K' 500 ∧ K' ≤ 135 ∧ KL f f' := by
  have i1 : KL f (mset 0 0 (nI 0) f) := fun j hj => mset_no (by omega)
  have i0 : CL A o (mset 0 0 (nI 0) f) 0 1 := ⟨mset_s, by rw [mset_no (by decide)]; exact hb, fun _ => 0, fun i hi => by omega, fun i j _ hj => by omega, fun c hc h5 hv => by rw [vC_no hk ho h5 (.inr (.inr (by omega)))] at hv; cases hv⟩
  obtain ⟨x, hx, hQ⟩ := lp_ex (b := p_X1_listCodes_L7 ff) (I := fun i z => z.1 = nI i ∧ KL f z.2 ∧ ∃ K', K' ≤ i * 27 ∧ CL A o z.2 K' (100 * i + 1)) (Q := fun z => KL f z ∧ ∃ K', K' ≤ 135 ∧ CL A o z K' 501) 5
    (fun i hi z hz => by
      obtain ⟨z1, z2⟩ := z
      obtain ⟨rfl, e1, K', e2, e3⟩ := hz
      dsimp only at e1 e3
      obtain ⟨f', K2, q1, q2, q3, q4⟩ := list14 h hk ho hi e3 e2
      refine ⟨(nI (i + 1), f'), ?_, rfl, fun j hj => (q4 j hj).trans (e1 j hj), K2, q3, q2⟩
      unfold p_X1_listCodes_L7
      dsimp only
      rw [if_neg (nI_ge hi (by decide)), q1]
      simp only [Option.bind_some]
      rw [nI_add])
    (fun z hz => by
      obtain ⟨z1, z2⟩ := z
      obtain ⟨rfl, e1, K', e2, e3⟩ := hz
      refine ⟨z2, ?_, e1, K', e2, e3⟩
      unfold p_X1_listCodes_L7
      dsimp only
      rw [if_pos (Int32.le_refl _)]) (i := 0) (s := (nI 0, mset 0 0 (nI 0) f)) (by omega)
      ⟨rfl, i1, 0, by omega, i0⟩
  obtain ⟨h1, K', h2, h3⟩ := hQ
  refine ⟨x, K', ?_, ?_, h2, h1⟩
  · unfold p_X1_listCodes
    rw [hx]
    rfl
  · obtain ⟨q1, q2, cl, q3, q4, q5⟩ := h3
    exact ⟨q1, q2, cl, fun i hi => by obtain ⟨w1, w2, w3, w4⟩ := q3 i hi; exact ⟨w1, w2, w3, w2⟩, q4, fun c hc h5 hv => q5 c (by omega) h5 hv⟩
end OPSK

/-! ===== the text: lines ===== -/
section TXE
variable {t : Nat → Nat} {n : Nat}
/-- the page that is read, as a page -/
def vg (g : Mem) : Mem := fun i => if i = 0 then (fun _ => g 0 1) else if i = 1 then g 2 else fun _ => 0
def okD (A : Fk) (G : Nat → Bool) : Prop := (A 0 0 ≤ 3 ∧ A 0 2 ≤ 6) ∧ (∀ k, k < A 0 0 → A 1 k < 4 ∧ A 2 k < 5 ∧ 1 ≤ A 3 k ∧ A 3 k ≤ 9) ∧ (∀ k, k < 15 → A 4 k ≤ 99) ∧ (∀ k, k < 5 → A 5 k ≤ 999) ∧ (∀ k, k < A 0 2 → A 7 k < 5 ∧ A 8 k < 5 ∧ A 7 k ≠ A 8 k ∧ (A 9 k < 3 ∧ G (A 9 k) = true) ∧ 1 ≤ A 10 k ∧ A 10 k ≤ 9) ∧ ∀ k, k < 15 → A 4 k ≠ 0 → G (k / 5) = true
def gbI (G : Nat → Bool) : Int32 := nI ((if G 0 = true then 1 else 0) + (if G 1 = true then 2 else 0) + (if G 2 = true then 4 else 0))
def ghI (G : Nat → Bool) : Int32 := if G 2 = true then nI 2 else if G 1 = true then nI 1 else if G 0 = true then nI 0 else -1
def setG (G : Nat → Bool) (k : Nat) : Nat → Bool := fun j => decide (j = k) || G j
theorem gb_set (G : Nat → Bool) {k : Nat} (hk : k < 3) : gbI G ||| ((nI 1) <<< (nI k &&& 31)) = gbI (setG G k) := by
  unfold gbI setG
  rcases (show k = 0 ∨ k = 1 ∨ k = 2 by omega) with rfl | rfl | rfl <;> cases G 0 <;> cases G 1 <;> cases G 2 <;> decide
theorem gh_set (G : Nat → Bool) {k : Nat} (hk : k < 3) : (if nI k ≤ ghI G then ghI G else nI k) = ghI (setG G k) := by
  unfold ghI setG
  rcases (show k = 0 ∨ k = 1 ∨ k = 2 by omega) with rfl | rfl | rfl <;> cases G 0 <;> cases G 1 <;> cases G 2 <;> decide
theorem setG_old {G : Nat → Bool} {k j : Nat} (h : G j = true) : setG G k j = true := by unfold setG; rw [h, Bool.or_true]
theorem setG_new (G : Nat → Bool) (k : Nat) : setG G k k = true := by unfold setG; rw [decide_eq_true rfl, Bool.true_or]
theorem or_nI (a b : Nat) : nI a ||| nI b = nI (a ||| b) := Int32.toBitVec_inj.1 (by
  show BitVec.ofNat 32 a ||| BitVec.ofNat 32 b = BitVec.ofNat 32 (a ||| b)
  rw [BitVec.ofNat_or])
theorem shl_15 : ∀ k, k < 15 → (nI 1) <<< (nI k &&& 31) = nI (2 ^ k) := by decide +kernel
theorem or_set {T k m : Nat} (hT : T < 2 ^ m) (hk : k < m) (hm : m ≤ 15) : nI T ||| ((nI 1) <<< (nI k &&& 31)) = nI (T ||| 2 ^ k) ∧ T ||| 2 ^ k < 2 ^ m := by
  refine ⟨by rw [shl_15 k (by omega), or_nI], Nat.or_lt_two_pow hT (Nat.pow_lt_pow_right (by decide) hk)⟩
def DI (f d g : Mem) (A : Fk) (G : Nat → Bool) (T U : Nat) : Prop := enc d A ∧ okD A G ∧ MS (vg g) 0 A ∧ (f 0 3 = nI T ∧ g 0 2 = nI T ∧ T < 2 ^ 15) ∧ (f 0 4 = nI U ∧ g 0 3 = nI U ∧ U < 2 ^ 5) ∧ f 0 5 = gbI G ∧ g 0 4 = ghI G
/-- what a line changes in the model -/
def FT (g g' : Mem) : Prop := (∀ j, ¬ (1 ≤ j ∧ j ≤ 4) → ¬ J7 j → g' 0 j = g 0 j) ∧ ∀ i, i ≠ 0 → i ≠ 2 → g' i = g i
theorem FT_rfl (g : Mem) : FT g g := ⟨fun _ _ _ => rfl, fun _ _ _ => rfl⟩
theorem FT_tr {a b c : Mem} (h : FT a b) (k : FT b c) : FT a c := ⟨fun j h1 h2 => (k.1 j h1 h2).trans (h.1 j h1 h2), fun i h1 h2 => (k.2 i h1 h2).trans (h.2 i h1 h2)⟩
theorem FT_But {g g' : Mem} (h : But J7 g g') : FT g g' := ⟨fun j _ h2 => h.1 j h2, fun i h1 _ => h.2 i h1⟩
theorem FT_row (g : Mem) (r : Nat → Int32) : FT g (mrow 2 r g) := ⟨fun j _ _ => by rw [mrow_ne (by decide)], fun i _ h2 => mrow_ne h2⟩
theorem FT_set (g : Mem) {j : Nat} (v : Int32) (h1 : 1 ≤ j) (h4 : j ≤ 4) : FT g (mset 0 j v g) := ⟨fun k hk _ => mset_no (by omega), fun i h1 _ => mset_ne h1⟩
theorem Lk_as {f X g g' : Mem} {p : Nat} (L : Lk f X g n t p) (h0 : ∀ j, 5 ≤ j → g' 0 j = g 0 j) (h3 : g' 3 = g 3) : Lk f X g' n t p := by
  obtain ⟨q1, q2, q3, q4, ⟨q5, q6, q7⟩, q8⟩ := L
  refine ⟨q1, q2, q3, q4, ⟨q5, by rw [h0 5 (by decide)]; exact q6, fun k hk => by rw [h3]; exact q7 k hk⟩, ?_⟩
  unfold TK
  rw [h0 7 (by decide), h0 8 (by decide), h0 9 (by decide), h0 10 (by decide), h0 11 (by decide), h0 12 (by decide)]
  exact q8
theorem Lk_row {f X g : Mem} {p : Nat} (L : Lk f X g n t p) (r : Nat → Int32) : Lk f X (mrow 2 r g) n t p := Lk_as L (fun j _ => by rw [mrow_ne (by decide)]) (mrow_ne (by decide))
theorem Lk_set {f X g : Mem} {p j : Nat} (L : Lk f X g n t p) (h : j ≤ 4) (v : Int32) : Lk f X (mset 0 j v g) n t p := Lk_as L (fun k hk => mset_no (by omega)) (mset_ne (by decide))
theorem Lk_f {f f' X g : Mem} {p : Nat} (L : Lk f X g n t p) (h : f' 0 1 = f 0 1) : Lk f' X g n t p := ⟨by rw [h]; exact L.1, L.2⟩
/-- how a line may end -/
def LineOut (n : Nat) (t : Nat → Nat) (p : Nat) (f g : Mem) (cls : Option (Mem × Mem × Mem)) (mdl : Option Mem) : Prop :=
  (∃ f' d' X' g' p' A' G' T' U', cls = some (f', d', X') ∧ mdl = some g' ∧ f' 0 0 = f 0 0 ∧ Lk f' X' g' n t p' ∧ p < p' ∧ DI f' d' g' A' G' T' U' ∧ FT g g') ∨
  (∃ f' d' X' g', cls = some (f', d', X') ∧ mdl = some g' ∧ Fdd f' g' ∧ FT g g')
/-- a goose more -/
def gooF (A : Fk) (w s q : Nat) : Fk := fun i j => if i = 0 ∧ j = 0 then A 0 0 + 1 else if 1 ≤ i ∧ i ≤ 3 ∧ j = A 0 0 then (if i = 1 then w else if i = 2 then s else q) else A i j
theorem gooF_00 {A : Fk} {w s q : Nat} : gooF A w s q 0 0 = A 0 0 + 1 := if_pos ⟨rfl, rfl⟩
theorem gooF_no {A : Fk} {w s q i j : Nat} (h1 : i ≠ 0 ∨ j ≠ 0) (h2 : i = 0 ∨ 3 < i ∨ j ≠ A 0 0) : gooF A w s q i j = A i j := by
  unfold gooF
  rw [if_neg (by omega), if_neg (by omega)]
theorem gooF_new {A : Fk} {w s q i : Nat} (h1 : 1 ≤ i) (h3 : i ≤ 3) : gooF A w s q i (A 0 0) = if i = 1 then w else if i = 2 then s else q := by
  unfold gooF
  rw [if_neg (by omega), if_pos ⟨h1, h3, rfl⟩]
theorem MS_goose {g g' : Mem} {A : Fk} {w s q : Nat} (hA : A 0 0 < 3 ∧ A 0 2 ≤ 6) (h : MS g 0 A) (h0 : g' 0 0 = nI (A 0 0 + 1)) (h1 : g' 1 (A 0 0) = nI w) (h2 : g' 1 (3 + A 0 0) = nI s) (h3 : g' 1 (6 + A 0 0) = nI q) (ho : ∀ j, j ≠ A 0 0 → j ≠ 3 + A 0 0 → j ≠ 6 + A 0 0 → g' 1 j = g 1 j) : MS g' 0 (gooF A w s q) := by
  refine ⟨by rw [h0, gooF_00], fun i j hij => ?_⟩
  rw [Nat.zero_add]
  unfold dm at hij
  rw [gooF_00, gooF_no (i := 0) (j := 2) (.inr (by decide)) (.inl rfl)] at hij
  by_cases c1 : 1 ≤ i ∧ i ≤ 3 ∧ j = A 0 0
  · obtain ⟨c1, c2, rfl⟩ := c1
    rw [sl_ph c1 c2, gooF_new c1 c2]
    unfold vl
    rw [if_neg (by omega)]
    rcases (show i = 1 ∨ i = 2 ∨ i = 3 by omega) with rfl | rfl | rfl
    · rw [show 3 * (1 - 1) + A 0 0 = A 0 0 by omega, h1, if_pos rfl]
    · rw [show 3 * (2 - 1) + A 0 0 = 3 + A 0 0 by omega, h2, if_neg (by decide), if_pos rfl]
    · rw [show 3 * (3 - 1) + A 0 0 = 6 + A 0 0 by omega, h3, if_neg (by decide), if_neg (by decide)]
  · have hd : dm A i j := by unfold dm; omega
    have hk := sl_key hd
    have := h.2 i j hd
    rw [Nat.zero_add] at this
    rw [ho _ (by omega) (by omega) (by omega), this, gooF_no (by omega) (by omega)]
theorem MS_plus2 {g g' : Mem} {A : Fk} (hk : A 0 0 ≤ 3 ∧ A 0 2 ≤ 6) (h : MS g 0 A) {v : Nat → Nat} (h0 : g' 0 0 = g 0 0) (hr : ∀ j, j < 4 → g' 1 (35 + 4 * A 0 2 + j) = nI (v j)) (h59 : g' 1 59 = nI (A 0 2 + 1)) (ho : ∀ j, j < 35 + 4 * A 0 2 → g' 1 j = g 1 j) : MS g' 0 (plusF A v) := by
  refine ⟨by rw [h0, plusF_no (by decide) (.inr (by decide))]; exact h.1, fun i j hij => ?_⟩
  rw [Nat.zero_add]
  unfold dm at hij
  rw [plusF_02, plusF_no (i := 0) (j := 0) (by decide) (.inr (by decide))] at hij
  by_cases c1 : i = 0 ∧ j = 2
  · obtain ⟨rfl, rfl⟩ := c1
    rw [plusF_02]
    exact h59
  · by_cases c2 : 7 ≤ i ∧ j = A 0 2
    · obtain ⟨c2, rfl⟩ := c2
      rw [sl_pl c2, hr _ (by omega)]
      have := plusF_new (A := A) (v := v) (i := i - 7) (by omega)
      rw [show 7 + (i - 7) = i by omega] at this
      rw [this]
      unfold vl
      rw [if_neg (by omega)]
    · have e : plusF A v i j = A i j := by
        unfold plusF
        rw [if_neg c1, if_neg (by omega)]
      have hd : dm A i j := by unfold dm; omega
      have hl : sl i j < 35 + 4 * A 0 2 := by
        have := sl_key hd
        omega
      have := h.2 i j hd
      rw [Nat.zero_add] at this
      rw [e, ho _ hl, this]
theorem addGoose_eq {d : Mem} {A : Fk} (h : enc d A) (hm : A 0 0 < 3) (w s q : Nat) : ∃ d', p_X0_addGoose d (nI w) (nI s) (nI q) = some d' ∧ enc d' (gooF A w s q) := by
  have i3 : inb (nI (A 0 0)) 3 = true := inb_nI hm (by decide)
  obtain ⟨⟨h1, h2, h3⟩, h4, h5, h6, h7⟩ := h
  unfold p_X0_addGoose
  rw [h1, if_pos ((nI_ltI (by omega) (by decide)).mpr hm), gd_t i3, nI_clamp (by omega)]
  unfold bnd
  dsimp only
  rw [gd_t i3, gd_t i3, nI_add]
  refine ⟨_, rfl, ⟨by rw [mset_s, gooF_00], by rw [mset_no (by decide), mrow_ne (by decide), mrow_ne (by decide), mrow_ne (by decide), gooF_no (.inr (by decide)) (.inl rfl)]; exact h2, by rw [mset_no (by decide), mrow_ne (by decide), mrow_ne (by decide), mrow_ne (by decide), gooF_no (.inr (by decide)) (.inl rfl)]; exact h3⟩, fun k hk => ?_, fun k hk => ?_, fun k hk => ?_, fun k hk => ?_⟩
  · rw [gooF_00] at hk
    rw [mset_ne (by decide), mset_ne (by decide), mset_ne (by decide), mrow_ne (by decide), mrow_ne (by decide), mrow_s, mrow_ne (by decide), mrow_s, mrow_s]
    by_cases hkm : k = A 0 0
    · subst hkm
      rw [pk_us, pk_us, pk_us, gooF_new (by decide) (by decide), gooF_new (by decide) (by decide), gooF_new (by decide) (by decide)]
      exact ⟨rfl, rfl, rfl⟩
    · rw [pk_un hkm, pk_un hkm, pk_un hkm, gooF_no (.inl (by decide)) (.inr (.inr hkm)), gooF_no (.inl (by decide)) (.inr (.inr hkm)), gooF_no (.inl (by decide)) (.inr (.inr hkm))]
      exact h4 k (by omega)
  · rw [mset_ne (by decide), mrow_ne (by decide), mrow_ne (by decide), mrow_ne (by decide), gooF_no (.inl (by decide)) (.inr (.inl (by decide)))]
    exact h5 k hk
  · rw [mset_ne (by decide), mrow_ne (by decide), mrow_ne (by decide), mrow_ne (by decide), mset_ne (by decide), mrow_ne (by decide), mrow_ne (by decide), mrow_ne (by decide), gooF_no (.inl (by decide)) (.inr (.inl (by decide))), gooF_no (.inl (by decide)) (.inr (.inl (by decide)))]
    exact h6 k hk
  · rw [gooF_no (.inr (by decide)) (.inl rfl)] at hk
    rw [mset_ne (by decide), mset_ne (by decide), mset_ne (by decide), mset_ne (by decide), mrow_ne (by decide), mrow_ne (by decide), mrow_ne (by decide), mrow_ne (by decide), mrow_ne (by decide), mrow_ne (by decide), mrow_ne (by decide), mrow_ne (by decide), mrow_ne (by decide), mrow_ne (by decide), mrow_ne (by decide), mrow_ne (by decide), gooF_no (.inl (by decide)) (.inr (.inl (by decide))), gooF_no (.inl (by decide)) (.inr (.inl (by decide))), gooF_no (.inl (by decide)) (.inr (.inl (by decide))), gooF_no (.inl (by decide)) (.inr (.inl (by decide)))]
    exact h7 k hk
theorem okD_goose {A : Fk} {G : Nat → Bool} (h : okD A G) (hm : A 0 0 < 3) {w s q : Nat} (hw : w < 4) (hs : s < 5) (hq1 : 1 ≤ q) (hq : q ≤ 9) : okD (gooF A w s q) G := by
  obtain ⟨h1, h2, h4, h5, h6, h7⟩ := h
  unfold okD
  rw [gooF_00, gooF_no (i := 0) (j := 2) (.inr (by decide)) (.inl rfl)]
  refine ⟨⟨by omega, h1.2⟩, fun k hk => ?_, fun k hk => ?_, fun k hk => ?_, fun k hk => ?_, fun k hk hk2 => ?_⟩
  · by_cases hkm : k = A 0 0
    · subst hkm
      rw [gooF_new (by decide) (by decide), gooF_new (by decide) (by decide), gooF_new (by decide) (by decide)]
      exact ⟨hw, hs, hq1, hq⟩
    · rw [gooF_no (.inl (by decide)) (.inr (.inr hkm)), gooF_no (.inl (by decide)) (.inr (.inr hkm)), gooF_no (.inl (by decide)) (.inr (.inr hkm))]
      exact h2 k (by omega)
  · rw [gooF_no (.inl (by decide)) (.inr (.inl (by decide)))]; exact h4 k hk
  · rw [gooF_no (.inl (by decide)) (.inr (.inl (by decide)))]; exact h5 k hk
  · rw [gooF_no (.inl (by decide)) (.inr (.inl (by decide))), gooF_no (.inl (by decide)) (.inr (.inl (by decide))), gooF_no (.inl (by decide)) (.inr (.inl (by decide))), gooF_no (.inl (by decide)) (.inr (.inl (by decide)))]; exact h6 k hk
  · rw [gooF_no (.inl (by decide)) (.inr (.inl (by decide)))] at hk2; exact h7 k hk hk2
/-- a line of a goose -/
theorem goose_line {f d X g : Mem} {p w T U : Nat} {A : Fk} {G : Nat → Bool} (L : Lk f X g n t p) (D : DI f d g A G T U) (hm : A 0 0 < 3) (hw : w < 4) : LineOut n t p f g (p_X5_readGoose_B20 f d X (nI w)) ((p_X7_readMore g (nI w)).bind tl) := by
  obtain ⟨D1, D2, D3, D4, D5, D6, D7⟩ := D
  have g1 : g 0 1 = nI (A 0 0) := D3.1
  have im : inb (nI (A 0 0)) 60 = true := inb_nI (by omega) (by decide)
  have L1 := Lk_row L (upd (g 2) (A 0 0) (nI w))
  have k1 := FT_row g (upd (g 2) (A 0 0) (nI w))
  unfold p_X5_readGoose_B20 p_X7_readMore
  rw [if_neg (fun z => by have := (nI_ltI (by decide) (by omega)).mp z; omega), g1, gd_t im, nI_clamp (by omega), nI_add]
  unfold bnd
  dsimp only
  rcases num0 L1 (lo := 0) (hi := 4) (by decide) (by decide) with ⟨s, X1, g2, a1, a2, -, -, a5, a6, a7, a8, a9, a10⟩ | ⟨-, f1, X1, g2, b1, b2, b3, b4, -⟩
  · have L2 := Lk_row a9 (upd (g2 2) (3 + A 0 0) (nI s))
    have k2 := FT_tr (FT_tr k1 (FT_But a8)) (FT_row g2 (upd (g2 2) (3 + A 0 0) (nI s)))
    have g21 : g2 0 1 = nI (A 0 0) := by rw [a8.1 1 (by unfold J7; omega), mrow_ne (by decide)]; exact g1
    rw [a5, a7]
    simp only [Option.bind_some]
    rw [gd_t (inb_nI (by omega) (by decide)), nI_clamp (by omega), g21, nI_add]
    rcases num0 L2 (lo := 1) (hi := 9) (by decide) (by decide) with ⟨q, X2, g4, c1, c2, -, -, c5, c6, c7, c8, c9, c10⟩ | ⟨-, f2, X2, g4, b1, b2, b3, b4, -⟩
    · have g41 : g4 0 1 = nI (A 0 0) := by rw [c8.1 1 (by unfold J7; omega), mrow_ne (by decide)]; exact g21
      have L3 := Lk_set (Lk_row c9 (upd (g4 2) (6 + A 0 0) (nI q))) (show 1 ≤ 4 by decide) (nI (A 0 0 + 1))
      have k3 := FT_tr (FT_tr (FT_tr k2 (FT_But c8)) (FT_row g4 (upd (g4 2) (6 + A 0 0) (nI q)))) (FT_set (mrow 2 (upd (g4 2) (6 + A 0 0) (nI q)) g4) (nI (A 0 0 + 1)) (show 1 ≤ 1 by decide) (by decide))
      rw [c5, c7]
      simp only [Option.bind_some]
      rw [gd_t (inb_nI (by omega) (by decide)), nI_clamp (by omega), g41, nI_add]
      simp only [Option.bind_some]
      rcases end_both L3 with ⟨X3, g6, e1, e2, e3, e4, e5⟩ | ⟨f3, X3, g6, e1, e2, e3, e4⟩
      · obtain ⟨d', u1, u2⟩ := addGoose_eq D1 hm w s q
        rw [e1]
        simp only [Option.bind_some]
        rw [if_neg (by decide), u1]
        have r6 : g6 2 = upd (upd (upd (g 2) (A 0 0) (nI w)) (3 + A 0 0) (nI s)) (6 + A 0 0) (nI q) := by
          rw [e3.2 2 (by decide), mset_ne (by decide), mrow_s, c8.2 2 (by decide), mrow_s, a8.2 2 (by decide), mrow_s]
        have r61 : g6 0 1 = nI (A 0 0 + 1) := by rw [e3.1 1 (by unfold J7; omega), mset_s]
        refine .inl ⟨f, d', X3, g6, _, gooF A w s q, G, T, U, rfl, e2, rfl, e4, by omega, ⟨u2, okD_goose D2 hm hw (by omega) c1 c2, ?_, ⟨D4.1, ?_, D4.2.2⟩, ⟨D5.1, ?_, D5.2.2⟩, D6, ?_⟩, FT_tr k3 (FT_But e3)⟩
        · refine MS_goose (g := vg g) ⟨hm, D2.1.2⟩ D3 r61 ?_ ?_ ?_ (fun j j1 j2 j3 => ?_)
          · show g6 2 _ = _
            rw [r6, pk_un (by omega), pk_un (by omega), pk_us]
          · show g6 2 _ = _
            rw [r6, pk_un (by omega), pk_us]
          · show g6 2 _ = _
            rw [r6, pk_us]
          · show g6 2 j = g 2 j
            rw [r6, pk_un j3, pk_un j2, pk_un j1]
        · rw [e3.1 2 (by unfold J7; omega), mset_no (by decide), mrow_ne (by decide), c8.1 2 (by unfold J7; omega), mrow_ne (by decide), a8.1 2 (by unfold J7; omega), mrow_ne (by decide)]; exact D4.2.1
        · rw [e3.1 3 (by unfold J7; omega), mset_no (by decide), mrow_ne (by decide), c8.1 3 (by unfold J7; omega), mrow_ne (by decide), a8.1 3 (by unfold J7; omega), mrow_ne (by decide)]; exact D5.2.1
        · rw [e3.1 4 (by unfold J7; omega), mset_no (by decide), mrow_ne (by decide), c8.1 4 (by unfold J7; omega), mrow_ne (by decide), a8.1 4 (by unfold J7; omega), mrow_ne (by decide)]; exact D7
      · rw [e1]
        simp only [Option.bind_some]
        rw [if_pos (show nI 0 = 0 from rfl)]
        exact .inr ⟨f3, d, X3, g6, rfl, e2, e4, FT_tr k3 (FT_But e3)⟩
    · have g41 : g4 0 1 = nI (A 0 0) := by rw [b3.1 1 (by unfold J7; omega), mrow_ne (by decide)]; exact g21
      have fd := Fdd_as (g' := mset 0 1 (nI (A 0 0 + 1)) (mrow 2 (upd (g4 2) (6 + A 0 0) (nI 1)) g4)) b4 (by rw [mset_no (by decide), mrow_ne (by decide)]) (by rw [mset_no (by decide), mrow_ne (by decide)])
      rw [b1, b2]
      simp only [Option.bind_some]
      rw [end_no (Fdd_f b4), gd_t (inb_nI (by omega) (by decide)), nI_clamp (by omega), g41, nI_add]
      simp only [Option.bind_some]
      rw [if_pos (show nI 0 = 0 from rfl), tlF fd]
      exact .inr ⟨f2, d, X2, _, rfl, rfl, fd, FT_tr (FT_tr (FT_tr k2 (FT_But b3)) (FT_row g4 _)) (FT_set _ _ (show 1 ≤ 1 by decide) (by decide))⟩
  · have g21 : g2 0 1 = nI (A 0 0) := by rw [b3.1 1 (by unfold J7; omega), mrow_ne (by decide)]; exact g1
    have fd1 := Fdd_as (g' := mrow 2 (upd (g2 2) (3 + A 0 0) (nI 0)) g2) b4 (by rw [mrow_ne (by decide)]) (by rw [mrow_ne (by decide)])
    have fd2 := Fdd_as (g' := mset 0 1 (nI (A 0 0 + 1)) (mrow 2 (upd (mrow 2 (upd (g2 2) (3 + A 0 0) (nI 0)) g2 2) (6 + A 0 0) (nI 1)) (mrow 2 (upd (g2 2) (3 + A 0 0) (nI 0)) g2))) fd1 (by rw [mset_no (by decide), mrow_ne (by decide)]) (by rw [mset_no (by decide), mrow_ne (by decide)])
    rw [b1, b2]
    simp only [Option.bind_some]
    rw [num_no (Fdd_f b4)]
    simp only [Option.bind_some]
    rw [end_no (Fdd_f b4), gd_t (inb_nI (by omega) (by decide)), nI_clamp (by omega), otherF fd1, g21, nI_add]
    simp only [Option.bind_some]
    rw [if_pos (show nI 0 = 0 from rfl), gd_t (inb_nI (by omega) (by decide)), nI_clamp (by omega), mrow_ne (show 0 ≠ 2 by decide), g21, nI_add]
    simp only [Option.bind_some]
    rw [tlF fd2]
    exact .inr ⟨f1, d, X1, _, rfl, rfl, fd2, FT_tr (FT_tr (FT_tr (FT_tr k1 (FT_But b3)) (FT_row g2 _)) (FT_row _ _)) (FT_set _ _ (show 1 ≤ 1 by decide) (by decide))⟩
/-- a first number that is none ends a line of the class -/
theorem goose_no {f d X f1 X1 : Mem} {k : Int32} (h : p_X5_nextNumber f X (nI 0) (nI 4) = some (nI 0, f1, X1)) (h1 : ¬ f1 0 1 = 0) : p_X5_readGoose_B20 f d X k = some (f1, d, X1) := by
  unfold p_X5_readGoose_B20
  rw [h]
  simp only [Option.bind_some]
  rw [num_no h1]
  simp only [Option.bind_some]
  rw [end_no h1]
  simp only [Option.bind_some]
  rw [if_pos (show nI 0 = 0 from rfl)]
end TXE

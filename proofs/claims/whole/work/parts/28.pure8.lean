/-! ===== pure side: exchanges of the class's flock ===== -/
theorem enc_row5 {f : Mem} {A B : Fk} {r : Nat → Int32} (h : enc f A) (hr : ∀ k, k < 5 → r k = nI (B 5 k)) (ho : ∀ i j, i ≠ 5 → B i j = A i j) : enc (mrow 5 r f) B := by
  have m : ∀ i, i ≠ 5 → mrow 5 r f i = f i := fun i hi => by rw [mrow_at, if_neg hi]
  have m5 : mrow 5 r f 5 = r := by rw [mrow_at, if_pos rfl]
  obtain ⟨h1, h2, h3, h4, h5⟩ := h
  unfold enc
  rw [m 0 (by decide), m 1 (by decide), m 2 (by decide), m 3 (by decide), m 4 (by decide), m5, m 6 (by decide), m 7 (by decide), m 8 (by decide), m 9 (by decide), m 10 (by decide)]
  simp only [ho 0 _ (by decide), ho 1 _ (by decide), ho 2 _ (by decide), ho 3 _ (by decide), ho 4 _ (by decide), ho 6 _ (by decide), ho 7 _ (by decide), ho 8 _ (by decide), ho 9 _ (by decide), ho 10 _ (by decide)]
  exact ⟨h1, h2, h3, fun k hk => ⟨hr k hk, (h4 k hk).2⟩, h5⟩
/-- a trade is done: buyer, seller, goose, feathers -/
def paid (A : Fk) (b c : Nat) : Fk := fset A 5 b (A 5 b - c)
def payF (A : Fk) (b s c : Nat) : Fk := fset (paid A b c) 5 s (paid A b c 5 s + c)
theorem payF_ne {A : Fk} {b s c i j : Nat} (h : i ≠ 5) : payF A b s c i j = A i j := by
  unfold payF paid
  rw [fset_ne h, fset_ne h]
def exch (A : Fk) (b s g n : Nat) : Fk := payF (moveF A b s g n) b s (n * A 3 g)
theorem exchange_eq {f : Mem} {A : Fk} (h : enc f A) (hk : okF A) {b s g n : Nat} (hb : b < 5) (hs : s < 5) (hg : g < A 0 0) (hn : n ≤ sh A g s) (hm : n * A 3 g ≤ A 5 b) : ∃ f', p_X0_exchange f (nI b) (nI s) (nI g) (nI n) = some f' ∧ enc f' (exch A b s g n) := by
  have h3 := hk.1.1
  obtain ⟨f1, q1, q2⟩ := moveFeathers_eq h hk hb hs hg hn
  have p3 : f1 3 g = nI (A 3 g) := ((q2.2.1 g (by rw [moveF_ne (by decide)]; exact hg)).2.2).trans (by rw [moveF_ne (by decide)])
  have m5 : ∀ k, moveF A b s g n 5 k = A 5 k := fun k => moveF_ne (by decide)
  have r5 : ∀ k, k < 5 → f1 5 k = nI (moveF A b s g n 5 k) := fun k hk2 => (q2.2.2.2.1 k hk2).1
  have e1 : ∀ k, k < 5 → upd (f1 5) b (nI (moveF A b s g n 5 b - n * A 3 g)) k = nI (paid (moveF A b s g n) b (n * A 3 g) 5 k) := upd_enc r5
  have E1 : enc (mrow 5 (upd (f1 5) b (nI (moveF A b s g n 5 b - n * A 3 g))) f1) (paid (moveF A b s g n) b (n * A 3 g)) := enc_row5 q2 e1 (fun i j hi => fset_ne hi)
  refine ⟨_, ?_, enc_row5 (r := upd (upd (f1 5) b (nI (moveF A b s g n 5 b - n * A 3 g))) s (nI (paid (moveF A b s g n) b (n * A 3 g) 5 s + n * A 3 g))) (B := exch A b s g n) E1 (upd_enc e1) (fun i j hi => fset_ne hi)⟩
  unfold p_X0_exchange
  rw [q1]
  simp only [Option.bind_some]
  rw [gd_t (inb_nI hb (by decide)), gd_t (inb_nI (by omega) (by decide)), gd_t (inb_nI hb (by decide)), nI_clamp (by omega), nI_clamp (by omega), nI_clamp (by omega), p3, r5 b hb, pk_mul, pk_sub (by rw [m5]; exact hm)]
  unfold bnd
  dsimp only
  rw [gd_t (inb_nI (by omega) (by decide)), gd_t (inb_nI (by omega) (by decide)), gd_t (inb_nI (by omega) (by decide)), e1 _ (by omega), nI_add]
theorem exch_45 {A : Fk} {b s g n i j : Nat} (h4 : i ≠ 4) (h5 : i ≠ 5) : exch A b s g n i j = A i j := by
  unfold exch
  rw [payF_ne h5, moveF_ne h4]
theorem okF_exch {A : Fk} (hk : okF A) {b s g n : Nat} (hb : b < 5) (hs : s < 5) (hbs : b ≠ s) (hg : g < A 0 0) (hc : canT A b s g n = true) : okF (exch A b s g n) := by
  have h3 := hk.1.1
  unfold canT canP at hc
  simp only [Bool.and_eq_true, decide_eq_true_eq] at hc
  obtain ⟨⟨⟨c1, c2⟩, c3⟩, c4⟩ := hc
  obtain ⟨h1, h2, h4, h5, h6, h7⟩ := hk
  have e : ∀ i j, i ≠ 4 → i ≠ 5 → exch A b s g n i j = A i j := fun i j h4 h5 => exch_45 h4 h5
  unfold okF
  simp only [e 0 _ (by decide) (by decide), e 1 _ (by decide) (by decide), e 2 _ (by decide) (by decide), e 3 _ (by decide) (by decide), e 7 _ (by decide) (by decide), e 8 _ (by decide) (by decide), e 9 _ (by decide) (by decide), e 10 _ (by decide) (by decide)]
  have e4 : ∀ k, exch A b s g n 4 k = moveF A b s g n 4 k := fun k => payF_ne (by decide)
  have e5 : ∀ k, exch A b s g n 5 k = payF A b s (n * A 3 g) 5 k := fun k => by
    unfold exch payF paid
    simp only [fset, moveF_ne (A := A) (b := b) (s := s) (g := g) (n := n) (show (5 : Nat) ≠ 4 by decide)]
  refine ⟨h1, h2, fun k hk2 => ?_, fun k hk2 => ?_, h6, fun k hk2 hk3 => ?_⟩
  · rw [e4]
    have := h4 k hk2
    unfold sh at c1 c2
    unfold moveF tkF
    by_cases kb : k = g * 5 + b
    · subst kb; rw [fset_at, fset_no (by omega)]; omega
    · rw [fset_no kb]
      by_cases ks : k = g * 5 + s
      · subst ks; rw [fset_at]; omega
      · rw [fset_no ks]; exact this
  · rw [e5]
    have := h5 k hk2
    unfold payF paid
    by_cases ks : k = s
    · subst ks; rw [fset_at, fset_no (by omega)]; omega
    · rw [fset_no ks]
      by_cases kb : k = b
      · subst kb; rw [fset_at]; omega
      · rw [fset_no kb]; exact this
  · rw [e4]
    have := h7 k hk2 hk3
    unfold moveF tkF
    rw [fset_no (by omega), fset_no (by omega)]; exact this

/-! ===== pure side: pages copied, what is kept, the relation ===== -/
/-- two loops side by side -/
theorem lq2 {σ τ ρ ρ2 : Type} {b : σ → Option (σ ⊕ ρ)} {c : τ → Option (τ ⊕ ρ2)} (I : Nat → σ → τ → Prop) (Q : ρ → ρ2 → Prop) (N : Nat)
    (hs : ∀ i, i < N → ∀ s t, I i s t → (∃ s' t', b s = some (.inl s') ∧ c t = some (.inl t') ∧ I (i + 1) s' t') ∨ (∃ x y, b s = some (.inr x) ∧ c t = some (.inr y) ∧ Q x y))
    (he : ∀ s t, I N s t → ∃ x y, b s = some (.inr x) ∧ c t = some (.inr y) ∧ Q x y) {s : σ} {t : τ} {i : Nat} (hi : i ≤ N) (h : I i s t) : ∃ x y, lp b s = some x ∧ lp c t = some y ∧ Q x y := by
  obtain ⟨k, hk⟩ : ∃ k, i + k = N := ⟨N - i, by omega⟩
  induction k generalizing i s t with
  | zero =>
    have : i = N := by omega
    subst this
    obtain ⟨x, y, h1, h2, h3⟩ := he s t h
    exact ⟨x, y, by rw [lp_eq, h1]; rfl, by rw [lp_eq, h2]; rfl, h3⟩
  | succ k ih =>
    rcases hs i (by omega) s t h with ⟨s', t', h1, h2, h3⟩ | ⟨x, y, h1, h2, h3⟩
    · obtain ⟨x, y, h4, h5, h6⟩ := ih (i := i + 1) (s := s') (t := t') (by omega) h3 (by omega)
      exact ⟨x, y, by rw [lp_eq, h1]; exact h4, by rw [lp_eq, h2]; exact h5, h6⟩
    · exact ⟨x, y, by rw [lp_eq, h1]; rfl, by rw [lp_eq, h2]; rfl, h3⟩
theorem copies_eq {g : Mem} {a b : Nat} (ha : a ≤ 300) (hb : b ≤ 300) (hd : a + 60 ≤ b ∨ b + 60 ≤ a) : ∃ g', p_X7_copies g (nI a) (nI b) = some g' ∧ Fr b g g' ∧ ∀ k, k < 60 → g' 1 (b + k) = g 1 (a + k) := by
  obtain ⟨x, hx, hQ⟩ := lp_ex (b := p_X7_copies_L2 (nI a) (nI b)) (I := fun i z => z.1 = nI i ∧ Fr b g z.2 ∧ ∀ k, k < i → z.2 1 (b + k) = g 1 (a + k)) (Q := fun z => Fr b g z ∧ ∀ k, k < 60 → z 1 (b + k) = g 1 (a + k)) 60
    (fun i hi z hz => by
      obtain ⟨z1, z2⟩ := z
      obtain ⟨rfl, e3, e4⟩ := hz
      dsimp only at e3 e4
      refine ⟨(nI (i + 1), mrow 1 (upd (z2 1) (b + i) (z2 1 (a + i))) z2), ?_, rfl, Fr_tr e3 (Fr_upd hi), fun k hk => ?_⟩
      · unfold p_X7_copies_L2
        dsimp only
        rw [if_neg (nI_ge hi (by decide)), nI_add, nI_add, nI_add, gd_t (inb_nI (by omega) (by decide)), gd_t (inb_nI (by omega) (by decide)), nI_clamp (by omega), nI_clamp (by omega)]
        rfl
      · dsimp only
        rw [mrow_at, if_pos rfl]
        unfold upd
        by_cases hki : k = i
        · subst hki
          rw [if_pos rfl]
          exact e3.2 _ (by omega)
        · rw [if_neg (by omega)]
          exact e4 k (by omega))
    (fun z hz => by
      obtain ⟨z1, z2⟩ := z
      obtain ⟨rfl, e3, e4⟩ := hz
      refine ⟨z2, ?_, e3, e4⟩
      unfold p_X7_copies_L2
      dsimp only
      rw [if_pos (Int32.le_refl _)]) (i := 0) (s := (nI 0, g)) (by omega) ⟨rfl, Fr_rfl b g, fun k hk => by omega⟩
  refine ⟨x, ?_, hQ.1, hQ.2⟩
  unfold p_X7_copies
  rw [hx]
  rfl
theorem MS_copy {g g' : Mem} {a b : Nat} {A : Fk} (hk : okF A) (h : MS g a A) (hf : Fr b g g') (hc : ∀ k, k < 60 → g' 1 (b + k) = g 1 (a + k)) : MS g' b A :=
  ⟨by rw [hf.1 0 (by decide)]; exact h.1, fun i j hij => by rw [hc _ (sl_lt hk.1.1 hk.1.2 hij)]; exact h.2 i j hij⟩
theorem MS_Fr {g g' : Mem} {p q : Nat} {A : Fk} (hk : okF A) (h : MS g p A) (hf : Fr q g g') (hd : p + 60 ≤ q ∨ q + 60 ≤ p) : MS g' p A :=
  MS_of hk h (by rw [hf.1 0 (by decide)]) (fun j h1 h2 => hf.2 j (by omega))
theorem copyOn_eq {g : Mem} {a b : Nat} {A : Fk} (hk : okF A) (h : MS g a A) (ha : a ≤ 300) (hb : b ≤ 300) (hd : a + 60 ≤ b ∨ b + 60 ≤ a) : ∃ g', p_X7_copies g (nI a) (nI b) = some g' ∧ MS g' b A ∧ Fr b g g' := by
  obtain ⟨g', q1, q2, q3⟩ := copies_eq (g := g) ha hb hd
  exact ⟨g', q1, MS_copy hk h q2 q3, q2⟩
/-- what other calls see of the model stays, but for page 0 -/
def Keep0 (g g' : Mem) : Prop := (∀ j, j = 0 ∨ j = 5 ∨ j = 6 ∨ j = 21 ∨ j = 22 → g' 0 j = g 0 j) ∧ (∀ j, 60 ≤ j → j < 180 → g' 1 j = g 1 j) ∧ ∀ i, 3 ≤ i → i ≠ 7 → g' i = g i
def Keep (g g' : Mem) : Prop := Keep0 g g' ∧ ∀ j, j < 60 → g' 1 j = g 1 j
theorem Keep0_rfl (g : Mem) : Keep0 g g := ⟨fun _ _ => rfl, fun _ _ _ => rfl, fun _ _ _ => rfl⟩
theorem Keep_rfl (g : Mem) : Keep g g := ⟨Keep0_rfl g, fun _ _ => rfl⟩
theorem Keep0_tr {a b c : Mem} (h : Keep0 a b) (k : Keep0 b c) : Keep0 a c := ⟨fun j hj => (k.1 j hj).trans (h.1 j hj), fun j h1 h2 => (k.2.1 j h1 h2).trans (h.2.1 j h1 h2), fun i h1 h2 => (k.2.2 i h1 h2).trans (h.2.2 i h1 h2)⟩
theorem Keep_tr {a b c : Mem} (h : Keep a b) (k : Keep b c) : Keep a c := ⟨Keep0_tr h.1 k.1, fun j hj => (k.2 j hj).trans (h.2 j hj)⟩
theorem Fr_Keep0 {q : Nat} {g g' : Mem} (h : Fr q g g') (hq : q = 0 ∨ 180 ≤ q) : Keep0 g g' :=
  ⟨fun j _ => by rw [h.1 0 (by decide)], fun j h1 h2 => h.2 j (by omega), fun i h1 h2 => h.1 i (by omega)⟩
theorem Fr_Keep {q : Nat} {g g' : Mem} (h : Fr q g g') (hq : 180 ≤ q) : Keep g g' := ⟨Fr_Keep0 h (.inr hq), fun j hj => h.2 j (by omega)⟩
theorem MS_Keep0 {g g' : Mem} {pg : Nat} {A : Fk} (hk : okF A) (h : MS g pg A) (hp : pg = 60 ∨ pg = 120) (hf : Keep0 g g') : MS g' pg A :=
  MS_of hk h (hf.1 0 (.inl rfl)) (fun j h1 h2 => hf.2.1 j (by omega) (by omega))
theorem MS_Keep {g g' : Mem} {A : Fk} (hk : okF A) (h : MS g 0 A) (hf : Keep g g') : MS g' 0 A :=
  MS_of hk h (hf.1.1 0 (.inl rfl)) (fun j h1 h2 => hf.2 j (by omega))
def R_tape (x5 g : Mem) : Prop := ∃ n, n ≤ 160 ∧ x5 0 0 = nI n ∧ g 0 5 = nI n ∧ ∀ k, k < n → ∃ c, c ≤ 127 ∧ x5 1 k = nI c ∧ g 3 k = nI c
def R_img (x g : Mem) (pg : Nat) (k : Bool) : Prop := k = true → ∃ B, enc x B ∧ okF B ∧ MS g pg B
def R_imgs (x0 x3 x4 g : Mem) : Prop := ∃ k0 k1 : Bool, x0 0 0 = nI ((if k0 = true then 1 else 0) + (if k1 = true then 2 else 0)) ∧ g 8 0 = bI k0 ∧ g 8 1 = bI k1 ∧ R_img x3 g 60 k0 ∧ R_img x4 g 120 k1
def R_seen (x8 g : Mem) (n : Nat) : Prop := ∃ m, ∃ S : Nat → Nat → Nat, m ≤ 6 ∧ x8 0 0 = nI m ∧ g 0 21 = nI m ∧ ∀ e, e < m → (S e 0 < n ∧ S e 1 < 5 ∧ S e 2 ≤ 20 ∧ S e 3 ≤ 99) ∧ (x8 1 e = nI (S e 0) ∧ x8 2 e = nI (S e 1) ∧ x8 3 e = nI (S e 2) ∧ x8 4 e = nI (S e 3)) ∧ (g 6 (4 * e) = nI (S e 0) ∧ g 6 (4 * e + 1) = nI (S e 1) ∧ g 6 (4 * e + 2) = nI (S e 2) ∧ g 6 (4 * e + 3) = nI (S e 3))
def R_sheet (s g : Mem) (k : Nat) : Prop := (s 0 0 = nI 1 ∧ g 9 k = -4) ∨ ∃ l n, l < 3 ∧ n ≤ 40 ∧ s 0 0 = nI 0 ∧ s 0 1 = nI l ∧ s 0 2 = nI n ∧ g 9 k = nI l ∧ g 10 k = nI n ∧ ∀ i, i < 40 → s 1 i = g 11 (40 * k + i)
def R_const (g : Mem) : Prop := (∀ k, k < 8 → g 4 k = i_X7 4 k) ∧ ∀ k, k < 36 → g 5 k = i_X7 5 k
def Rest (x0 x3 x4 x5 x6 x8 s0 s1 s2 s3 g : Mem) (n : Nat) : Prop := R_tape x5 g ∧ x6 0 1 = g 0 6 ∧ R_imgs x0 x3 x4 g ∧ R_seen x8 g n ∧ (R_sheet s0 g 0 ∧ R_sheet s1 g 1 ∧ R_sheet s2 g 2 ∧ R_sheet s3 g 3) ∧ x0 0 1 = g 0 22 ∧ R_const g
def Rel (x0 x1 x3 x4 x5 x6 x8 s0 s1 s2 s3 g : Mem) : Prop := ∃ A, enc x1 A ∧ okF A ∧ MS g 0 A ∧ Rest x0 x3 x4 x5 x6 x8 s0 s1 s2 s3 g (A 0 0)
theorem R_sheet_Keep0 {s g g' : Mem} {k : Nat} (h : R_sheet s g k) (hf : Keep0 g g') : R_sheet s g' k := by
  unfold R_sheet
  rw [hf.2.2 9 (by decide) (by decide), hf.2.2 10 (by decide) (by decide), hf.2.2 11 (by decide) (by decide)]
  exact h
theorem R_img_Keep0 {x g g' : Mem} {pg : Nat} {k : Bool} (hp : pg = 60 ∨ pg = 120) (h : R_img x g pg k) (hf : Keep0 g g') : R_img x g' pg k := fun hk => by
  obtain ⟨B, h1, h2, h3⟩ := h hk
  exact ⟨B, h1, h2, MS_Keep0 h2 h3 hp hf⟩
theorem Rest_Keep0 {x0 x3 x4 x5 x6 x8 s0 s1 s2 s3 g g' : Mem} {n : Nat} (h : Rest x0 x3 x4 x5 x6 x8 s0 s1 s2 s3 g n) (hf : Keep0 g g') : Rest x0 x3 x4 x5 x6 x8 s0 s1 s2 s3 g' n := by
  obtain ⟨h1, h2, ⟨k0, k1, h3, h4, h5, h6, h7⟩, h8, ⟨h9, h10, h11, h12⟩, h13, h14⟩ := h
  refine ⟨?_, ?_, ⟨k0, k1, h3, ?_, ?_, R_img_Keep0 (.inl rfl) h6 hf, R_img_Keep0 (.inr rfl) h7 hf⟩, ?_, ⟨R_sheet_Keep0 h9 hf, R_sheet_Keep0 h10 hf, R_sheet_Keep0 h11 hf, R_sheet_Keep0 h12 hf⟩, ?_, ?_⟩
  · unfold R_tape
    rw [hf.1 5 (by decide), hf.2.2 3 (by decide) (by decide)]
    exact h1
  · rw [hf.1 6 (by decide)]; exact h2
  · rw [hf.2.2 8 (by decide) (by decide)]; exact h4
  · rw [hf.2.2 8 (by decide) (by decide)]; exact h5
  · unfold R_seen
    rw [hf.1 21 (by decide), hf.2.2 6 (by decide) (by decide)]
    exact h8
  · rw [hf.1 22 (by decide)]; exact h13
  · unfold R_const
    rw [hf.2.2 4 (by decide) (by decide), hf.2.2 5 (by decide) (by decide)]
    exact h14
theorem Rel_Keep {x0 x1 x3 x4 x5 x6 x8 s0 s1 s2 s3 g g' : Mem} (h : Rel x0 x1 x3 x4 x5 x6 x8 s0 s1 s2 s3 g) (hf : Keep g g') : Rel x0 x1 x3 x4 x5 x6 x8 s0 s1 s2 s3 g' := by
  obtain ⟨A, h1, h2, h3, h4⟩ := h
  exact ⟨A, h1, h2, MS_Keep h2 h3 hf, Rest_Keep0 h4 hf.1⟩
/-- the flock that is now has changed -/
theorem Rel_now {x0 x3 x4 x5 x6 x8 s0 s1 s2 s3 g g' x1' : Mem} {A B : Fk} (h : Rest x0 x3 x4 x5 x6 x8 s0 s1 s2 s3 g (A 0 0)) (hf : Keep0 g g') (h1 : enc x1' B) (h2 : okF B) (h3 : MS g' 0 B) (h0 : B 0 0 = A 0 0) : Rel x0 x1' x3 x4 x5 x6 x8 s0 s1 s2 s3 g' :=
  ⟨B, h1, h2, h3, by rw [h0]; exact Rest_Keep0 h hf⟩

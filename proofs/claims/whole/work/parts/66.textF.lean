/-! ===== the text: lines of shares, of money ===== -/
section TXF
variable {t : Nat → Nat} {n : Nat}
theorem bit_sh {T k o : Nat} (ho : o < 5) : T / 2 ^ (5 * k) % 32 / 2 ^ o % 2 = T / 2 ^ (k * 5 + o) % 2 := by
  rw [show k * 5 + o = 5 * k + o by omega, Nat.pow_add, ← Nat.div_div_eq_div_mul]
  generalize T / 2 ^ (5 * k) = q
  rcases (show o = 0 ∨ o = 1 ∨ o = 2 ∨ o = 3 ∨ o = 4 by omega) with rfl | rfl | rfl | rfl | rfl
  · show q % 32 / 1 % 2 = q / 1 % 2
    omega
  · show q % 32 / 2 % 2 = q / 2 % 2
    omega
  · show q % 32 / 4 % 2 = q / 4 % 2
    omega
  · show q % 32 / 8 % 2 = q / 8 % 2
    omega
  · show q % 32 / 16 % 2 = q / 16 % 2
    omega
theorem some_dec : ∀ k, k < 32 → ((nI k &&& 31).toBitVec.smod 32).toNat = k := by decide +kernel
theorem some_eq {T k : Nat} (hT : T < 2 ^ 15) (hk : k < 3) : (nI T >>> (nI (5 * k) &&& 31)) &&& nI 31 = nI (T / 2 ^ (5 * k) % 32) := by
  have := Nat.div_le_self T (2 ^ (5 * k))
  rw [pk_shrN (by omega) (nI (5 * k) &&& 31) (5 * k) (some_dec _ (by omega)), pk_andN (by omega) 5 (by decide)]
theorem gooseHere_of {g g' : Mem} {r : Int32} (h : p_X7_other g (nI 0) (nI 2) (nI 0) = some (r, g')) : p_X7_gooseHere g = some (r, mset 0 4 (if r ≤ g' 0 4 then g' 0 4 else r) g') := by
  unfold p_X7_gooseHere p_X7_gooseHere_B25
  rw [h]
  simp only [Option.bind_some]
  split <;> rfl
theorem share45_no {f d X : Mem} (h : ¬ f 0 1 = 0) (a b : Int32) : p_X5_readShare_B45 f d X a b = some (f, d, X) := by
  unfold p_X5_readShare_B45
  rw [num_no h]
  simp only [Option.bind_some]
  rw [end_no h]
  simp only [Option.bind_some]
  rw [if_pos (show nI 0 = 0 from rfl)]
theorem share12_no {f d X : Mem} (h : ¬ f 0 1 = 0) (c : Prop) [Decidable c] (u v a b : Int32) : (if c then (Option.bind (p_X5_refuse f u v) fun f_42 => p_X5_readShare_B45 f_42 d X a b) else p_X5_readShare_B45 f d X a b) = some (f, d, X) := by
  rw [ref_no h]
  simp only [Option.bind_some]
  rw [share45_no h]
  split <;> rfl
theorem share_no {f d X f1 X1 : Mem} (h : p_X5_nextNumber f X (nI 0) (nI 2) = some (nI 0, f1, X1)) (h1 : ¬ f1 0 1 = 0) : p_X5_readShare f d X = some (f1, d, X1) := by
  unfold p_X5_readShare
  rw [h]
  simp only [Option.bind_some]
  rw [num_no h1]
  simp only [Option.bind_some]
  exact share12_no h1 _ _ _ _ _
/-- a line of a share -/
theorem share_line {f d X g : Mem} {p T U : Nat} {A : Fk} {G : Nat → Bool} (L : Lk f X g n t p) (D : DI f d g A G T U) : LineOut n t p f g (p_X5_readShare f d X) ((p_X7_readMore g (nI 4)).bind tl) := by
  obtain ⟨D1, D2, D3, D4, D5, D6, D7⟩ := D
  have hT := D4.2.2
  unfold p_X7_readMore
  rw [if_pos (by decide), if_pos rfl]
  rcases num0 L (lo := 0) (hi := 2) (by decide) (by decide) with ⟨k, X1, g2, a1, a2, -, -, a5, a6, a7, a8, a9, a10⟩ | ⟨-, f1, X1, g2, b1, b2, b3, b4, -⟩
  · have hg := gooseHere_of a7
    have g24 : g2 0 4 = ghI G := by rw [a8.1 4 (by unfold J7; omega)]; exact D7
    rw [g24, gh_set G (show k < 3 by omega)] at hg
    have L2 := Lk_set a9 (show 4 ≤ 4 by decide) (ghI (setG G k))
    have k2 : FT g (mset 0 4 (ghI (setG G k)) g2) := FT_tr (FT_But a8) (FT_set g2 _ (by decide) (by decide))
    have g32 : mset 0 4 (ghI (setG G k)) g2 0 2 = nI T := by rw [mset_no (by decide), a8.1 2 (by unfold J7; omega)]; exact D4.2.1
    have q32 : T / 2 ^ (5 * k) % 32 < 32 := Nat.mod_lt _ (by decide)
    unfold p_X5_readShare
    rw [a5, hg]
    simp only [Option.bind_some]
    simp only [pk_mul]
    rw [g32, some_eq hT (show k < 3 by omega)]
    rcases num_both L2 (lo := 0) (hi := 4) (S := T / 2 ^ (5 * k) % 32) (by decide) (by decide) (.inr ⟨by decide, by omega⟩) with ⟨o, X2, g4, c1, c2, -, -, cS, c5, c6, c7, c8, c9, c10⟩ | ⟨o, X2, g4, c1, c2, c3, c4, c5, c6, c7, c8, c9, c10⟩ | ⟨-, f2, X2, g4, b1, b2, b3, b4, -⟩
    · have bz : T / 2 ^ (k * 5 + o) % 2 = 0 := by
        rw [← bit_sh (show o < 5 by omega)]
        rcases cS with h | h
        · rw [h, Nat.zero_div]
        · exact h
      obtain ⟨s1, s2⟩ := or_set (k := k * 5 + o) hT (by omega) (by decide)
      have g42 : g4 0 2 = nI T := by rw [c8.1 2 (by unfold J7; omega)]; exact g32
      have L3 := Lk_set c9 (show 2 ≤ 4 by decide) (nI (T ||| 2 ^ (k * 5 + o)))
      have k3 : FT g (mset 0 2 (nI (T ||| 2 ^ (k * 5 + o))) g4) := FT_tr k2 (FT_tr (FT_But c8) (FT_set g4 _ (by decide) (by decide)))
      rw [c5, c7]
      simp only [Option.bind_some]
      rw [D4.1, nI_add, show (nI T >>> (nI (k * 5 + o) &&& 31)) &&& nI 1 = bitO (nI T) (k * 5 + o) from rfl, bitO_nI (by omega) (by omega), bz, if_neg (by decide), g42, nI_add, show 5 * k + o = k * 5 + o by omega, s1]
      unfold p_X5_readShare_B45
      rcases num0 L3 (lo := 0) (hi := 99) (by decide) (by decide) with ⟨v, X3, g6, e1, e2, -, -, e5, e6, e7, e8, e9, e10⟩ | ⟨-, f3, X3, g6, b1, b2, b3, b4, -⟩
      · have L4 := Lk_row e9 (upd (g6 2) (19 + 5 * k + o) (nI v))
        have k4 := FT_tr k3 (FT_tr (FT_But e8) (FT_row g6 (upd (g6 2) (19 + 5 * k + o) (nI v))))
        rw [e5, e7]
        simp only [Option.bind_some]
        rw [nI_add, nI_add, gd_t (inb_nI (show 19 + 5 * k + o < 60 by omega) (by decide)), nI_clamp (show 19 + 5 * k + o < 2 ^ 31 by omega)]
        unfold bnd
        dsimp only
        simp only [Option.bind_some]
        rcases end_both L4 with ⟨X4, g8, w1, w2, w3, w4, w5⟩ | ⟨f4, X4, g8, w1, w2, w3, w4⟩
        · rw [w1]
          simp only [Option.bind_some]
          rw [if_neg (by decide), gd_t (inb_nI (show k * 5 + o < 15 by omega) (by decide)), nI_clamp (show k * 5 + o < 2 ^ 31 by omega), D6, D4.1, gb_set G (show k < 3 by omega), s1]
          have r8 : g8 2 = upd (g 2) (19 + 5 * k + o) (nI v) := by rw [w3.2 2 (by decide), mrow_s, e8.2 2 (by decide), mset_ne (by decide), c8.2 2 (by decide), mset_ne (by decide), a8.2 2 (by decide)]
          have r81 : g8 0 1 = g 0 1 := by rw [w3.1 1 (by unfold J7; omega), mrow_ne (by decide), e8.1 1 (by unfold J7; omega), mset_no (by decide), c8.1 1 (by unfold J7; omega), mset_no (by decide), a8.1 1 (by unfold J7; omega)]
          have r82 : g8 0 2 = nI (T ||| 2 ^ (k * 5 + o)) := by rw [w3.1 2 (by unfold J7; omega), mrow_ne (by decide), e8.1 2 (by unfold J7; omega), mset_s]
          have r83 : g8 0 3 = nI U := by rw [w3.1 3 (by unfold J7; omega), mrow_ne (by decide), e8.1 3 (by unfold J7; omega), mset_no (by decide), c8.1 3 (by unfold J7; omega), mset_no (by decide), a8.1 3 (by unfold J7; omega)]; exact D5.2.1
          have r84 : g8 0 4 = ghI (setG G k) := by rw [w3.1 4 (by unfold J7; omega), mrow_ne (by decide), e8.1 4 (by unfold J7; omega), mset_no (by decide), c8.1 4 (by unfold J7; omega), mset_s]
          refine .inl ⟨_, _, X4, g8, _, fset A 4 (k * 5 + o) v, setG G k, T ||| 2 ^ (k * 5 + o), U, rfl, w2, by rw [mset_no (by decide), mset_no (by decide)], Lk_f w4 (by rw [mset_no (by decide), mset_no (by decide)]), by omega, ⟨enc_upd D1 (by decide), ?_, ?_, ⟨by rw [mset_no (by decide), mset_s], r82, s2⟩, ⟨by rw [mset_no (by decide), mset_no (by decide)]; exact D5.1, r83, D5.2.2⟩, mset_s, r84⟩, FT_tr k4 (FT_But w3)⟩
          · obtain ⟨h1, h2, h4, h5, h6, h7⟩ := D2
            have e0 : ∀ a b, a ≠ 4 → fset A 4 (k * 5 + o) v a b = A a b := fun a b hab => fset_ne hab
            unfold okD
            rw [e0 0 0 (by decide), e0 0 2 (by decide)]
            refine ⟨h1, fun j hj => ?_, fun j hj => ?_, fun j hj => ?_, fun j hj => ?_, fun j hj hj2 => ?_⟩
            · rw [e0 1 j (by decide), e0 2 j (by decide), e0 3 j (by decide)]; exact h2 j hj
            · by_cases hjk : j = k * 5 + o
              · subst hjk; rw [fset_at]; exact e2
              · rw [fset_no hjk]; exact h4 j hj
            · rw [e0 5 j (by decide)]; exact h5 j hj
            · rw [e0 7 j (by decide), e0 8 j (by decide), e0 9 j (by decide), e0 10 j (by decide)]
              obtain ⟨w1, w2, w3, ⟨w4, w5⟩, w6⟩ := h6 j hj
              exact ⟨w1, w2, w3, ⟨w4, setG_old w5⟩, w6⟩
            · by_cases hjk : j = k * 5 + o
              · rw [show j / 5 = k by omega]; exact setG_new G k
              · rw [fset_no hjk] at hj2; exact setG_old (h7 j hj hj2)
          · have := MS_upd D2.1 D3 (i := 4) (j := k * 5 + o) (n := v) (v := nI v) (by unfold dm; omega) (by omega) rfl
            rw [show 0 + sl 4 (k * 5 + o) = 19 + 5 * k + o by rw [sl_4]; omega] at this
            exact MS_as this (by rw [mrow_ne (by decide)]; exact r81) (by rw [mrow_s]; exact r8)
        · rw [w1]
          simp only [Option.bind_some]
          rw [if_pos (show nI 0 = 0 from rfl)]
          exact .inr ⟨f4, d, X4, g8, rfl, w2, w4, FT_tr k4 (FT_But w3)⟩
      · have fd := Fdd_as (g' := mrow 2 (upd (g6 2) (19 + 5 * k + o) (nI 0)) g6) b4 (by rw [mrow_ne (by decide)]) (by rw [mrow_ne (by decide)])
        rw [b1, b2]
        simp only [Option.bind_some]
        rw [end_no (Fdd_f b4), nI_add, nI_add, gd_t (inb_nI (show 19 + 5 * k + o < 60 by omega) (by decide)), nI_clamp (show 19 + 5 * k + o < 2 ^ 31 by omega)]
        unfold bnd
        dsimp only
        simp only [Option.bind_some]
        rw [if_pos (show nI 0 = 0 from rfl), tlF fd]
        exact .inr ⟨f3, d, X3, _, rfl, rfl, fd, FT_tr k3 (FT_tr (FT_But b3) (FT_row g6 _))⟩
    · have b1' : T / 2 ^ (k * 5 + o) % 2 = 1 := by rw [← bit_sh (show o < 5 by omega)]; exact c4
      have hS2 : lS t n (lE t n p) ≤ n := lS_le a9.2.2.2.1
      have h160 := a9.2.1.1
      have fd : Fdd (mset 0 2 (X2 0 2) (mset 0 1 (nI 4) f)) g4 := ⟨4, lS t n (lE t n p), by decide, by decide, by rw [mset_no (by decide), mset_s], by rw [mset_s, c6], c9, c10, by omega⟩
      have fd2 := fun (v : Int32) (r : Nat → Int32) => Fdd_as (g' := mrow 2 r (mset 0 2 v g4)) fd (by rw [mrow_ne (by decide), mset_no (by decide)]) (by rw [mrow_ne (by decide), mset_no (by decide)])
      have fd1 := fun (v : Int32) => Fdd_as (g' := mset 0 2 v g4) fd (by rw [mset_no (by decide)]) (by rw [mset_no (by decide)])
      rw [c5, c7]
      simp only [Option.bind_some]
      rw [D4.1, nI_add, show (nI T >>> (nI (k * 5 + o) &&& 31)) &&& nI 1 = bitO (nI T) (k * 5 + o) from rfl, bitO_nI (by omega) (by omega), b1', if_pos rfl, ref_yes L.1, otherF (fd1 _)]
      simp only [Option.bind_some]
      rw [share45_no (Fdd_f fd), nI_add, nI_add, gd_t (inb_nI (show 19 + 5 * k + 0 < 60 by omega) (by decide)), nI_clamp (show 19 + 5 * k + 0 < 2 ^ 31 by omega)]
      unfold bnd
      dsimp only
      simp only [Option.bind_some]
      rw [tlF (fd2 _ _)]
      exact .inr ⟨_, d, X2, _, rfl, rfl, fd2 _ _, FT_tr k2 (FT_tr (FT_But c8) (FT_tr (FT_set g4 _ (show 1 ≤ 2 by decide) (by decide)) (FT_row _ _)))⟩
    · have fd2 := fun (v : Int32) (r : Nat → Int32) => Fdd_as (g' := mrow 2 r (mset 0 2 v g4)) b4 (by rw [mrow_ne (by decide), mset_no (by decide)]) (by rw [mrow_ne (by decide), mset_no (by decide)])
      have fd1 := fun (v : Int32) => Fdd_as (g' := mset 0 2 v g4) b4 (by rw [mset_no (by decide)]) (by rw [mset_no (by decide)])
      rw [b1, b2]
      simp only [Option.bind_some]
      rw [share12_no (Fdd_f b4), otherF (fd1 _)]
      simp only [Option.bind_some]
      rw [nI_add, nI_add, gd_t (inb_nI (show 19 + 5 * k + 0 < 60 by omega) (by decide)), nI_clamp (show 19 + 5 * k + 0 < 2 ^ 31 by omega)]
      unfold bnd
      dsimp only
      simp only [Option.bind_some]
      rw [tlF (fd2 _ _)]
      exact .inr ⟨_, d, X2, _, rfl, rfl, fd2 _ _, FT_tr k2 (FT_tr (FT_But b3) (FT_tr (FT_set g4 _ (show 1 ≤ 2 by decide) (by decide)) (FT_row _ _)))⟩
  · have fd1 := fun (v : Int32) => Fdd_as (g' := mset 0 4 v g2) b4 (by rw [mset_no (by decide)]) (by rw [mset_no (by decide)])
    have fd2 := fun (v w : Int32) => Fdd_as (g' := mset 0 2 w (mset 0 4 v g2)) (fd1 v) (by rw [mset_no (by decide)]) (by rw [mset_no (by decide)])
    have fd3 := fun (v w : Int32) (r : Nat → Int32) => Fdd_as (g' := mrow 2 r (mset 0 2 w (mset 0 4 v g2))) (fd2 v w) (by rw [mrow_ne (by decide)]) (by rw [mrow_ne (by decide)])
    rw [share_no b1 (Fdd_f b4), gooseHere_of b2]
    simp only [Option.bind_some]
    rw [otherF (fd1 _)]
    simp only [Option.bind_some]
    rw [otherF (fd2 _ _)]
    simp only [Option.bind_some, pk_mul, nI_add]
    rw [gd_t (inb_nI (show 19 + 5 * 0 + 0 < 60 by omega) (by decide)), nI_clamp (show 19 + 5 * 0 + 0 < 2 ^ 31 by omega)]
    unfold bnd
    dsimp only
    simp only [Option.bind_some]
    rw [tlF (fd3 _ _ _)]
    exact .inr ⟨f1, d, X1, _, rfl, rfl, fd3 _ _ _, FT_tr (FT_But b3) (FT_tr (FT_set g2 _ (show 1 ≤ 4 by decide) (by decide)) (FT_tr (FT_set _ _ (show 1 ≤ 2 by decide) (by decide)) (FT_row _ _)))⟩
theorem money29_no {f d X : Mem} (h : ¬ f 0 1 = 0) (a : Int32) : p_X5_readMoney_B29 f d X a = some (f, d, X) := by
  unfold p_X5_readMoney_B29
  rw [num_no h]
  simp only [Option.bind_some]
  rw [end_no h]
  simp only [Option.bind_some]
  rw [if_pos (show nI 0 = 0 from rfl)]
theorem money12_no {f d X : Mem} (h : ¬ f 0 1 = 0) (c : Prop) [Decidable c] (u v a : Int32) : (if c then (Option.bind (p_X5_refuse f u v) fun f_42 => p_X5_readMoney_B29 f_42 d X a) else p_X5_readMoney_B29 f d X a) = some (f, d, X) := by
  rw [ref_no h]
  simp only [Option.bind_some]
  rw [money29_no h]
  split <;> rfl
theorem money_no {f d X f1 X1 : Mem} (h : p_X5_nextNumber f X (nI 0) (nI 4) = some (nI 0, f1, X1)) (h1 : ¬ f1 0 1 = 0) : p_X5_readMoney f d X = some (f1, d, X1) := by
  unfold p_X5_readMoney
  rw [h]
  simp only [Option.bind_some]
  exact money12_no h1 _ _ _ _
/-- a line of money -/
theorem money_line {f d X g : Mem} {p T U : Nat} {A : Fk} {G : Nat → Bool} (L : Lk f X g n t p) (D : DI f d g A G T U) : LineOut n t p f g (p_X5_readMoney f d X) ((p_X7_readMore g (nI 5)).bind tl) := by
  obtain ⟨D1, D2, D3, D4, D5, D6, D7⟩ := D
  have hU := D5.2.2
  unfold p_X7_readMore
  rw [if_pos (by decide), if_neg (by decide), if_pos rfl, D5.2.1]
  rcases num_both L (lo := 0) (hi := 4) (S := U) (by decide) (by decide) (.inr ⟨by decide, by omega⟩) with ⟨o, X2, g4, c1, c2, -, -, cS, c5, c6, c7, c8, c9, c10⟩ | ⟨o, X2, g4, c1, c2, c3, c4, c5, c6, c7, c8, c9, c10⟩ | ⟨-, f2, X2, g4, b1, b2, b3, b4, -⟩
  · have bz : U / 2 ^ o % 2 = 0 := by
      rcases cS with h | h
      · rw [h, Nat.zero_div]
      · exact h
    obtain ⟨s1, s2⟩ := or_set (k := o) hU (by omega) (by decide)
    have g43 : g4 0 3 = nI U := by rw [c8.1 3 (by unfold J7; omega)]; exact D5.2.1
    have L3 := Lk_set c9 (show 3 ≤ 4 by decide) (nI (U ||| 2 ^ o))
    have k3 : FT g (mset 0 3 (nI (U ||| 2 ^ o)) g4) := FT_tr (FT_But c8) (FT_set g4 _ (by decide) (by decide))
    unfold p_X5_readMoney
    rw [c5, c7]
    simp only [Option.bind_some]
    rw [D5.1, show (nI U >>> (nI o &&& 31)) &&& nI 1 = bitO (nI U) o from rfl, bitO_nI (by omega) (by omega), bz, if_neg (by decide), g43, s1]
    unfold p_X5_readMoney_B29
    rcases num0 L3 (lo := 0) (hi := 99) (by decide) (by decide) with ⟨v, X3, g6, e1, e2, -, -, e5, e6, e7, e8, e9, e10⟩ | ⟨-, f3, X3, g6, b1, b2, b3, b4, -⟩
    · have L4 := Lk_row e9 (upd (g6 2) (9 + o) (nI v - nI 20))
      have k4 := FT_tr k3 (FT_tr (FT_But e8) (FT_row g6 (upd (g6 2) (9 + o) (nI v - nI 20))))
      rw [e5, e7]
      simp only [Option.bind_some]
      rw [nI_add, gd_t (inb_nI (show 9 + o < 60 by omega) (by decide)), nI_clamp (show 9 + o < 2 ^ 31 by omega)]
      unfold bnd
      dsimp only
      simp only [Option.bind_some]
      rcases end_both L4 with ⟨X4, g8, w1, w2, w3, w4, w5⟩ | ⟨f4, X4, g8, w1, w2, w3, w4⟩
      · rw [w1]
        simp only [Option.bind_some]
        rw [if_neg (by decide), gd_t (inb_nI (show o < 5 by omega) (by decide)), nI_clamp (show o < 2 ^ 31 by omega), D5.1, s1]
        have r8 : g8 2 = upd (g 2) (9 + o) (nI v - nI 20) := by rw [w3.2 2 (by decide), mrow_s, e8.2 2 (by decide), mset_ne (by decide), c8.2 2 (by decide)]
        have r81 : g8 0 1 = g 0 1 := by rw [w3.1 1 (by unfold J7; omega), mrow_ne (by decide), e8.1 1 (by unfold J7; omega), mset_no (by decide), c8.1 1 (by unfold J7; omega)]
        have r82 : g8 0 2 = nI T := by rw [w3.1 2 (by unfold J7; omega), mrow_ne (by decide), e8.1 2 (by unfold J7; omega), mset_no (by decide), c8.1 2 (by unfold J7; omega)]; exact D4.2.1
        have r83 : g8 0 3 = nI (U ||| 2 ^ o) := by rw [w3.1 3 (by unfold J7; omega), mrow_ne (by decide), e8.1 3 (by unfold J7; omega), mset_s]
        have r84 : g8 0 4 = ghI G := by rw [w3.1 4 (by unfold J7; omega), mrow_ne (by decide), e8.1 4 (by unfold J7; omega), mset_no (by decide), c8.1 4 (by unfold J7; omega)]; exact D7
        refine .inl ⟨_, _, X4, g8, _, fset A 5 o v, G, T, U ||| 2 ^ o, rfl, w2, by rw [mset_no (by decide)], Lk_f w4 (by rw [mset_no (by decide)]), by omega, ⟨enc_upd D1 (by decide), ?_, ?_, ⟨by rw [mset_no (by decide)]; exact D4.1, r82, D4.2.2⟩, ⟨mset_s, r83, s2⟩, by rw [mset_no (by decide)]; exact D6, r84⟩, FT_tr k4 (FT_But w3)⟩
        · obtain ⟨h1, h2, h4, h5, h6, h7⟩ := D2
          have e0 : ∀ a b, a ≠ 5 → fset A 5 o v a b = A a b := fun a b hab => fset_ne hab
          unfold okD
          rw [e0 0 0 (by decide), e0 0 2 (by decide)]
          refine ⟨h1, fun j hj => ?_, fun j hj => ?_, fun j hj => ?_, fun j hj => ?_, fun j hj hj2 => ?_⟩
          · rw [e0 1 j (by decide), e0 2 j (by decide), e0 3 j (by decide)]; exact h2 j hj
          · rw [e0 4 j (by decide)]; exact h4 j hj
          · by_cases hjk : j = o
            · subst hjk; rw [fset_at]; omega
            · rw [fset_no hjk]; exact h5 j hj
          · rw [e0 7 j (by decide), e0 8 j (by decide), e0 9 j (by decide), e0 10 j (by decide)]; exact h6 j hj
          · rw [e0 4 j (by decide)] at hj2; exact h7 j hj hj2
        · have := MS_upd D2.1 D3 (i := 5) (j := o) (n := v) (v := nI v - nI 20) (by unfold dm; omega) (by omega) rfl
          rw [show 0 + sl 5 o = 9 + o by rw [sl_5]; omega] at this
          exact MS_as this (by rw [mrow_ne (by decide)]; exact r81) (by rw [mrow_s]; exact r8)
      · rw [w1]
        simp only [Option.bind_some]
        rw [if_pos (show nI 0 = 0 from rfl)]
        exact .inr ⟨f4, d, X4, g8, rfl, w2, w4, FT_tr k4 (FT_But w3)⟩
    · have fd := fun (r : Nat → Int32) => Fdd_as (g' := mrow 2 r g6) b4 (by rw [mrow_ne (by decide)]) (by rw [mrow_ne (by decide)])
      rw [b1, b2]
      simp only [Option.bind_some]
      rw [end_no (Fdd_f b4), nI_add, gd_t (inb_nI (show 9 + o < 60 by omega) (by decide)), nI_clamp (show 9 + o < 2 ^ 31 by omega)]
      unfold bnd
      dsimp only
      simp only [Option.bind_some]
      rw [if_pos (show nI 0 = 0 from rfl), tlF (fd _)]
      exact .inr ⟨f3, d, X3, _, rfl, rfl, fd _, FT_tr k3 (FT_tr (FT_But b3) (FT_row g6 _))⟩
  · have hS2 : lS t n p ≤ n := lS_le L.2.2.2.1
    have h160 := L.2.1.1
    have fd : Fdd (mset 0 2 (X2 0 2) (mset 0 1 (nI 4) f)) g4 := ⟨4, lS t n p, by decide, by decide, by rw [mset_no (by decide), mset_s], by rw [mset_s, c6], c9, c10, by omega⟩
    have fd1 := fun (v : Int32) => Fdd_as (g' := mset 0 3 v g4) fd (by rw [mset_no (by decide)]) (by rw [mset_no (by decide)])
    have fd2 := fun (v : Int32) (r : Nat → Int32) => Fdd_as (g' := mrow 2 r (mset 0 3 v g4)) (fd1 v) (by rw [mrow_ne (by decide)]) (by rw [mrow_ne (by decide)])
    unfold p_X5_readMoney
    rw [c5, c7]
    simp only [Option.bind_some]
    rw [D5.1, show (nI U >>> (nI o &&& 31)) &&& nI 1 = bitO (nI U) o from rfl, bitO_nI (by omega) (by omega), c4, if_pos rfl, ref_yes L.1, otherF (fd1 _)]
    simp only [Option.bind_some]
    rw [money29_no (Fdd_f fd), nI_add, gd_t (inb_nI (show 9 + 0 < 60 by omega) (by decide)), nI_clamp (show 9 + 0 < 2 ^ 31 by omega)]
    unfold bnd
    dsimp only
    simp only [Option.bind_some]
    rw [tlF (fd2 _ _)]
    exact .inr ⟨_, d, X2, _, rfl, rfl, fd2 _ _, FT_tr (FT_But c8) (FT_tr (FT_set g4 _ (show 1 ≤ 3 by decide) (by decide)) (FT_row _ _))⟩
  · have fd1 := fun (v : Int32) => Fdd_as (g' := mset 0 3 v g4) b4 (by rw [mset_no (by decide)]) (by rw [mset_no (by decide)])
    have fd2 := fun (v : Int32) (r : Nat → Int32) => Fdd_as (g' := mrow 2 r (mset 0 3 v g4)) (fd1 v) (by rw [mrow_ne (by decide)]) (by rw [mrow_ne (by decide)])
    rw [money_no b1 (Fdd_f b4), b2]
    simp only [Option.bind_some]
    rw [otherF (fd1 _)]
    simp only [Option.bind_some]
    rw [nI_add, gd_t (inb_nI (show 9 + 0 < 60 by omega) (by decide)), nI_clamp (show 9 + 0 < 2 ^ 31 by omega)]
    unfold bnd
    dsimp only
    simp only [Option.bind_some]
    rw [tlF (fd2 _ _)]
    exact .inr ⟨_, d, X2, _, rfl, rfl, fd2 _ _, FT_tr (FT_But b3) (FT_tr (FT_set g4 _ (show 1 ≤ 3 by decide) (by decide)) (FT_row _ _))⟩
end TXF

/-! ===== the text: lines of trades ===== -/
section TXG
variable {t : Nat → Nat} {n : Nat}
/-- the model's trade, from the number of feathers on -/
noncomputable def tE (f : Mem) (x1 : Int32) : Option Mem :=
  Option.bind (p_X7_other f (nI 1) (nI 9) (nI 0)) <| fun (r98, f_98) =>
  gd (inb (x1 + (nI 3)) 60) <|
  bnd (upd (f_98 2) (x1 + (nI 3)).toNatClampNeg r98) <| fun g101 =>
  gd (inb (nI 59) 60) <|
  gd (inb (nI 59) 60) <|
  bnd (upd (g101) (nI 59).toNatClampNeg ((g101 (nI 59).toNatClampNeg) + (nI 1))) <| fun g112 =>
  some (mrow 2 (g112) (mrow 2 (g101) f_98))
/-- from the goose on -/
noncomputable def tG (f : Mem) (x1 : Int32) : Option Mem :=
  Option.bind (p_X7_gooseHere f) <| fun (r82, f_82) =>
  gd (inb (x1 + (nI 2)) 60) <|
  bnd (upd (f_82 2) (x1 + (nI 2)).toNatClampNeg r82) <| fun g85 =>
  tE (mrow 2 (g85) f_82) x1
theorem B59_eq (f : Mem) (x1 : Int32) : p_X7_readTrade_B59 f x1 = (Option.bind (p_X7_other f (nI 0) (nI 4) (nI 0)) <| fun (r70, f_70) =>
  gd (inb (x1 + (nI 1)) 60) <|
  bnd (upd (f_70 2) (x1 + (nI 1)).toNatClampNeg r70) <| fun g73 =>
  tG (mrow 2 (g73) f_70) x1) := rfl
theorem tE_F {f g : Mem} {a : Nat} (h : Fdd f g) (ha : a + 3 < 60) : ∃ g', tE g (nI a) = some g' ∧ Fdd f g' ∧ FT g g' := by
  unfold tE
  rw [otherF h]
  simp only [Option.bind_some]
  rw [nI_add, gd_t (inb_nI ha (by decide))]
  unfold bnd
  dsimp only
  rw [gd_t (by decide), gd_t (by decide)]
  exact ⟨_, rfl, Fdd_as h (by rw [mrow_ne (by decide), mrow_ne (by decide)]) (by rw [mrow_ne (by decide), mrow_ne (by decide)]), FT_tr (FT_row g _) (FT_row _ _)⟩
theorem tG_F {f g : Mem} {a : Nat} (h : Fdd f g) (ha : a + 3 < 60) : ∃ g', tG g (nI a) = some g' ∧ Fdd f g' ∧ FT g g' := by
  unfold tG
  rw [gooseHere_of (otherF h _ _ _)]
  simp only [Option.bind_some]
  rw [nI_add, gd_t (inb_nI (by omega) (by decide))]
  unfold bnd
  dsimp only
  obtain ⟨g', u1, u2, u3⟩ := tE_F (g := mrow 2 (upd (mset 0 4 (if nI 0 ≤ g 0 4 then g 0 4 else nI 0) g 2) (nI (a + 2)).toNatClampNeg (nI 0)) (mset 0 4 (if nI 0 ≤ g 0 4 then g 0 4 else nI 0) g)) (Fdd_as h (by rw [mrow_ne (by decide), mset_no (by decide)]) (by rw [mrow_ne (by decide), mset_no (by decide)])) ha
  exact ⟨g', u1, u2, FT_tr (FT_tr (FT_set g _ (show 1 ≤ 4 by decide) (by decide)) (FT_row _ _)) u3⟩
theorem B59_F {f g : Mem} {a : Nat} (h : Fdd f g) (ha : a + 3 < 60) : ∃ g', p_X7_readTrade_B59 g (nI a) = some g' ∧ Fdd f g' ∧ FT g g' := by
  rw [B59_eq, otherF h]
  simp only [Option.bind_some]
  rw [nI_add, gd_t (inb_nI (by omega) (by decide))]
  unfold bnd
  dsimp only
  obtain ⟨g', u1, u2, u3⟩ := tG_F (g := mrow 2 (upd (g 2) (nI (a + 1)).toNatClampNeg (nI 0)) g) (Fdd_as h (by rw [mrow_ne (by decide)]) (by rw [mrow_ne (by decide)])) ha
  exact ⟨g', u1, u2, FT_tr (FT_row g _) u3⟩
theorem trade51_no {f d X : Mem} (h : ¬ f 0 1 = 0) (a b : Int32) : p_X5_readTrade_B51 f d X a b = some (f, d, X) := by
  unfold p_X5_readTrade_B51
  rw [num_no h]
  simp only [Option.bind_some]
  rw [num_no h]
  simp only [Option.bind_some]
  rw [end_no h]
  simp only [Option.bind_some]
  rw [if_pos (show nI 0 = 0 from rfl)]
theorem trade33_no {f d X : Mem} (h : ¬ f 0 1 = 0) (c : Prop) [Decidable c] (u v a b : Int32) : (if c then (Option.bind (p_X5_refuse f u v) fun f_48 => p_X5_readTrade_B51 f_48 d X a b) else p_X5_readTrade_B51 f d X a b) = some (f, d, X) := by
  rw [ref_no h]
  simp only [Option.bind_some]
  rw [trade51_no h]
  split <;> rfl
theorem trade_no {f d X f1 X1 : Mem} (h : p_X5_nextNumber f X (nI 0) (nI 4) = some (nI 0, f1, X1)) (h1 : ¬ f1 0 1 = 0) : p_X5_readTrade_B21 f d X = some (f1, d, X1) := by
  unfold p_X5_readTrade_B21
  rw [h]
  simp only [Option.bind_some]
  rw [num_no h1]
  simp only [Option.bind_some]
  exact trade33_no h1 _ _ _ _ _
theorem addToPlan_eq {d : Mem} {A : Fk} (h : enc d A) (hm : A 0 2 < 6) (b s k q : Nat) : ∃ d', p_X0_addToPlan d (nI b) (nI s) (nI k) (nI q) = some (nI 1, d') ∧ enc d' (plusF A (fun j => if j = 0 then b else if j = 1 then s else if j = 2 then k else q)) := by
  have i6 : inb (nI (A 0 2)) 6 = true := inb_nI hm (by decide)
  unfold p_X0_addToPlan
  rw [h.1.2.2, if_pos ((nI_ltI (by omega) (by decide)).mpr hm), gd_t i6, nI_clamp (show A 0 2 < 2 ^ 31 by omega)]
  unfold bnd
  dsimp only
  rw [gd_t i6, gd_t i6, gd_t i6, nI_add]
  refine ⟨_, rfl, enc_plus h mset_s ?_ ?_ ?_ ?_⟩
  · rw [mset_no (by decide), mrow_ne (by decide), mrow_ne (by decide), mrow_ne (by decide), mrow_ne (by decide)]
  · rw [mset_no (by decide), mrow_ne (by decide), mrow_ne (by decide), mrow_ne (by decide), mrow_ne (by decide)]
  · intro i h1 h7
    rw [mset_ne (by omega), mrow_ne (by omega), mrow_ne (by omega), mrow_ne (by omega), mrow_ne (by omega)]
  · intro i h4
    rcases (show i = 0 ∨ i = 1 ∨ i = 2 ∨ i = 3 by omega) with rfl | rfl | rfl | rfl
    · rw [mset_ne (by decide), mrow_ne (by decide), mrow_ne (by decide), mrow_ne (by decide), mrow_s]; rfl
    · rw [mset_ne (by decide), mrow_ne (by decide), mrow_ne (by decide), mrow_s]; rfl
    · rw [mset_ne (by decide), mrow_ne (by decide), mrow_s]; rfl
    · rw [mset_ne (by decide), mrow_s]; rfl
theorem okD_plus {A : Fk} {G : Nat → Bool} (h : okD A G) (h6 : A 0 2 < 6) {b s k q : Nat} (hb : b < 5) (hs : s < 5) (hbs : b ≠ s) (hk : k < 3) (hq1 : 1 ≤ q) (hq : q ≤ 9) : okD (plusF A (fun j => if j = 0 then b else if j = 1 then s else if j = 2 then k else q)) (setG G k) := by
  obtain ⟨q1, q2, q4, q5, q6, q7⟩ := h
  unfold okD
  rw [plusF_no (i := 0) (j := 0) (by decide) (.inr (by decide)), plusF_02]
  refine ⟨⟨q1.1, h6⟩, fun j hj => ?_, fun j hj => ?_, fun j hj => ?_, fun j hj => ?_, fun j hj hj2 => ?_⟩
  · rw [plusF_no (by decide) (.inl (by decide)), plusF_no (by decide) (.inl (by decide)), plusF_no (by decide) (.inl (by decide))]; exact q2 j hj
  · rw [plusF_no (by decide) (.inl (by decide))]; exact q4 j hj
  · rw [plusF_no (by decide) (.inl (by decide))]; exact q5 j hj
  · rcases Nat.lt_or_ge j (A 0 2) with hc | hc
    · rw [plusF_old (by decide) hc, plusF_old (by decide) hc, plusF_old (by decide) hc, plusF_old (by decide) hc]
      obtain ⟨w1, w2, w3, ⟨w4, w5⟩, w6⟩ := q6 j hc
      exact ⟨w1, w2, w3, ⟨w4, setG_old w5⟩, w6⟩
    · have : j = A 0 2 := by omega
      subst this
      have e7 := plusF_new (A := A) (v := fun j => if j = 0 then b else if j = 1 then s else if j = 2 then k else q) (i := 0) (by decide)
      have e8 := plusF_new (A := A) (v := fun j => if j = 0 then b else if j = 1 then s else if j = 2 then k else q) (i := 1) (by decide)
      have e9 := plusF_new (A := A) (v := fun j => if j = 0 then b else if j = 1 then s else if j = 2 then k else q) (i := 2) (by decide)
      have e10 := plusF_new (A := A) (v := fun j => if j = 0 then b else if j = 1 then s else if j = 2 then k else q) (i := 3) (by decide)
      simp only [Nat.reduceAdd] at e7 e8 e9 e10
      rw [e7, e8, e9, e10]
      exact ⟨hb, hs, hbs, ⟨hk, setG_new G k⟩, hq1, hq⟩
  · rw [plusF_no (by decide) (.inl (by decide))] at hj2; exact setG_old (q7 j hj hj2)
/-- a line of a trade -/
theorem trade_line {f d X g : Mem} {p T U : Nat} {A : Fk} {G : Nat → Bool} (L : Lk f X g n t p) (D : DI f d g A G T U) (hm : A 0 2 < 6) : LineOut n t p f g (p_X5_readTrade_B21 f d X) ((p_X7_readMore g (nI 6)).bind tl) := by
  obtain ⟨D1, D2, D3, D4, D5, D6, D7⟩ := D
  have e59 : (nI 59).toNatClampNeg = 59 := by decide
  have g59 : g 2 59 = nI (A 0 2) := MS_many D3
  have h160 := L.2.1.1
  have iat : inb (nI (35 + 4 * A 0 2)) 60 = true := inb_nI (by omega) (by decide)
  unfold p_X7_readMore
  rw [if_pos (by decide), if_neg (by decide), if_neg (by decide)]
  unfold p_X7_readTrade
  rw [gd_t (by decide), e59, g59, pk_mul, nI_add]
  rcases num0 L (lo := 0) (hi := 4) (by decide) (by decide) with ⟨b, X1, g2, a1, a2, -, -, a5, a6, a7, a8, a9, a10⟩ | ⟨-, f1, X1, g2, b1, b2, b3, b4, -⟩
  · have L2 := Lk_row a9 (upd (g2 2) (35 + 4 * A 0 2) (nI b))
    have k2 : FT g (mrow 2 (upd (g2 2) (35 + 4 * A 0 2) (nI b)) g2) := FT_tr (FT_But a8) (FT_row g2 _)
    have hp1 := a9.2.2.2.1
    have hS2 : lS t n (lE t n p) ≤ n := lS_le hp1
    rw [a7]
    simp only [Option.bind_some]
    rw [gd_t iat, nI_clamp (show 35 + 4 * A 0 2 < 2 ^ 31 by omega)]
    unfold bnd
    dsimp only
    rw [gd_t iat, pk_us]
    by_cases hsp : lK t n (lE t n p) = 2 ∧ lV t n (lE t n p) = b
    · -- alike
      obtain ⟨sp1, sp2⟩ := hsp
      obtain ⟨-, -, -, -, -, hT⟩ := a9
      rcases hT with ⟨k4, -⟩ | ⟨k4, t7, t9, t10, t11, t12⟩
      · omega
      · rw [if_pos (show g2 0 7 = 0 from t7), if_pos (by rw [t11, sp1]), if_pos (by rw [t12 sp1, sp2]), fails_yes (by rw [mrow_ne (by decide)]; exact t7), mrow_ne (show 0 ≠ 2 by decide), t10]
        simp only [Option.bind_some]
        unfold p_X5_readTrade_B21
        rw [a5]
        simp only [Option.bind_some]
        rcases num0 L2 (lo := 0) (hi := 4) (by decide) (by decide) with ⟨s, X2, g4, c1, c2, c3, -, c5, c6, -⟩ | ⟨hno, -⟩
        · have hs : s = b := by omega
          subst hs
          have fd : Fdd (mset 0 2 (X2 0 2) (mset 0 1 (nI 3) f)) (mset 0 8 (nI (lS t n (lE t n p))) (mset 0 7 (nI 3) (mrow 2 (upd (g2 2) (35 + 4 * A 0 2) (nI s)) g2))) := ⟨3, lS t n (lE t n p), by decide, by decide, by rw [mset_no (by decide), mset_s], by rw [mset_s, c6], by rw [mset_no (by decide), mset_s], mset_s, by omega⟩
          obtain ⟨g', u1, u2, u3⟩ := B59_F (a := 35 + 4 * A 0 2) fd (by omega)
          rw [c5]
          simp only [Option.bind_some]
          rw [if_pos trivial, ref_yes L.1]
          simp only [Option.bind_some]
          rw [trade51_no (Fdd_f fd), u1]
          simp only [Option.bind_some]
          rw [tlF u2]
          exact .inr ⟨_, d, X2, g', rfl, rfl, u2, FT_tr k2 (FT_tr (FT_But (J7_fail _ _ _)) u3)⟩
        · exact absurd ⟨by omega, by omega⟩ (hno sp1)
    · have same : (if (g2 0 7) = 0 then (if (g2 0 11) = (nI 2) then (if (g2 0 12) = nI b then (Option.bind (p_X7_fails (mrow 2 (upd (g2 2) (35 + 4 * A 0 2) (nI b)) g2) (nI 3)) <| fun f_56 => p_X7_readTrade_B59 f_56 (nI (35 + 4 * A 0 2))) else (p_X7_readTrade_B59 (mrow 2 (upd (g2 2) (35 + 4 * A 0 2) (nI b)) g2) (nI (35 + 4 * A 0 2)))) else (p_X7_readTrade_B59 (mrow 2 (upd (g2 2) (35 + 4 * A 0 2) (nI b)) g2) (nI (35 + 4 * A 0 2)))) else (p_X7_readTrade_B59 (mrow 2 (upd (g2 2) (35 + 4 * A 0 2) (nI b)) g2) (nI (35 + 4 * A 0 2)))) = p_X7_readTrade_B59 (mrow 2 (upd (g2 2) (35 + 4 * A 0 2) (nI b)) g2) (nI (35 + 4 * A 0 2)) := by
        obtain ⟨-, -, -, -, -, hT⟩ := a9
        rcases hT with ⟨k4, t7, t8⟩ | ⟨k4, t7, t9, t10, t11, t12⟩
        · rw [if_neg (by rw [t7]; decide)]
        · rw [if_pos (show g2 0 7 = 0 from t7), t11]
          by_cases k2' : lK t n (lE t n p) = 2
          · have lv := lV_nv (t := t) hp1 k2'
            rw [if_pos (by rw [k2']), t12 k2', if_neg (fun z => hsp ⟨k2', (nI_eq (by omega) (by omega)).mp z⟩)]
          · rw [if_neg (fun z => k2' ((nI_eq (by have := lK_le t n (lE t n p); omega) (by decide)).mp z))]
      rw [same, B59_eq]
      unfold p_X5_readTrade_B21
      rw [a5]
      simp only [Option.bind_some]
      rcases num0 L2 (lo := 0) (hi := 4) (by decide) (by decide) with ⟨s, X2, g4, c1, c2, c3, c4, c5, c6, c7, c8, c9, c10⟩ | ⟨-, f2, X2, g4, b1, b2, b3, b4, -⟩
      · have hbs : b ≠ s := fun z => hsp ⟨c4, by omega⟩
        have L3 := Lk_row c9 (upd (g4 2) (35 + 4 * A 0 2 + 1) (nI s))
        have k3 := FT_tr k2 (FT_tr (FT_But c8) (FT_row g4 (upd (g4 2) (35 + 4 * A 0 2 + 1) (nI s))))
        rw [c5, c7]
        simp only [Option.bind_some]
        rw [if_neg (fun z => hbs ((nI_eq (by omega) (by omega)).mp z).symm), nI_add, gd_t (inb_nI (by omega) (by decide)), nI_clamp (by omega)]
        unfold bnd p_X5_readTrade_B51 tG
        dsimp only
        rcases num0 L3 (lo := 0) (hi := 2) (by decide) (by decide) with ⟨k, X3, g6, e1, e2, -, -, e5, e6, e7, e8, e9, e10⟩ | ⟨-, f3, X3, g6, b1, b2, b3, b4, -⟩
        · have g64 : g6 0 4 = ghI G := by rw [e8.1 4 (by unfold J7; omega), mrow_ne (by decide), c8.1 4 (by unfold J7; omega), mrow_ne (by decide), a8.1 4 (by unfold J7; omega)]; exact D7
          have hgh := gooseHere_of e7
          rw [g64, gh_set G (show k < 3 by omega)] at hgh
          have L4 := Lk_row (Lk_set e9 (show 4 ≤ 4 by decide) (ghI (setG G k))) (upd (g6 2) (35 + 4 * A 0 2 + 2) (nI k))
          have k4 := FT_tr k3 (FT_tr (FT_But e8) (FT_tr (FT_set g6 (ghI (setG G k)) (show 1 ≤ 4 by decide) (by decide)) (FT_row (mset 0 4 (ghI (setG G k)) g6) (upd (g6 2) (35 + 4 * A 0 2 + 2) (nI k)))))
          rw [e5, hgh]
          simp only [Option.bind_some]
          rw [nI_add, gd_t (inb_nI (by omega) (by decide)), nI_clamp (by omega), mset_ne (show 2 ≠ 0 by decide)]
          unfold bnd tE
          dsimp only
          rcases num0 L4 (lo := 1) (hi := 9) (by decide) (by decide) with ⟨q, X4, g8, w1, w2, -, -, w5, w6, w7, w8, w9, w10⟩ | ⟨-, f4, X4, g8, b1, b2, b3, b4, -⟩
          · have r859 : g8 2 59 = nI (A 0 2) := by
              rw [w8.2 2 (by decide), mrow_s, pk_un (by omega), e8.2 2 (by decide), mrow_s, pk_un (by omega), c8.2 2 (by decide), mrow_s, pk_un (by omega), a8.2 2 (by decide)]
              exact g59
            have L5 := Lk_row (Lk_row w9 (upd (g8 2) (35 + 4 * A 0 2 + 3) (nI q))) (upd (upd (g8 2) (35 + 4 * A 0 2 + 3) (nI q)) 59 (nI (A 0 2 + 1)))
            have k5 := FT_tr k4 (FT_tr (FT_But w8) (FT_tr (FT_row g8 (upd (g8 2) (35 + 4 * A 0 2 + 3) (nI q))) (FT_row (mrow 2 (upd (g8 2) (35 + 4 * A 0 2 + 3) (nI q)) g8) (upd (upd (g8 2) (35 + 4 * A 0 2 + 3) (nI q)) 59 (nI (A 0 2 + 1))))))
            rw [w5, w7]
            simp only [Option.bind_some]
            rw [nI_add, gd_t (inb_nI (show 35 + 4 * A 0 2 + 3 < 60 by omega) (by decide)), nI_clamp (show 35 + 4 * A 0 2 + 3 < 2 ^ 31 by omega), e59]
            unfold bnd
            dsimp only
            rw [gd_t (by decide), gd_t (by decide), pk_un (show 59 ≠ 35 + 4 * A 0 2 + 3 by omega), r859, nI_add]
            simp only [Option.bind_some]
            rcases end_both L5 with ⟨X5, g10, y1, y2, y3, y4, y5⟩ | ⟨f5, X5, g10, y1, y2, y3, y4⟩
            · obtain ⟨d', u1, u2⟩ := addToPlan_eq D1 hm b s k q
              rw [y1]
              simp only [Option.bind_some]
              rw [if_neg (by decide), u1]
              simp only [Option.bind_some]
              rw [D6, gb_set G (show k < 3 by omega)]
              have r10 : g10 2 = upd (upd (upd (upd (upd (g 2) (35 + 4 * A 0 2) (nI b)) (35 + 4 * A 0 2 + 1) (nI s)) (35 + 4 * A 0 2 + 2) (nI k)) (35 + 4 * A 0 2 + 3) (nI q)) 59 (nI (A 0 2 + 1)) := by
                rw [y3.2 2 (by decide), mrow_s, w8.2 2 (by decide), mrow_s, e8.2 2 (by decide), mrow_s, c8.2 2 (by decide), mrow_s, a8.2 2 (by decide)]
              have low : ∀ j, 1 ≤ j → j ≤ 3 → g10 0 j = g 0 j := fun j j1 j3 => by
                rw [y3.1 j (by unfold J7; omega), mrow_ne (by decide), mrow_ne (by decide), w8.1 j (by unfold J7; omega), mrow_ne (by decide), mset_no (by omega), e8.1 j (by unfold J7; omega), mrow_ne (by decide), c8.1 j (by unfold J7; omega), mrow_ne (by decide), a8.1 j (by unfold J7; omega)]
              have r104 : g10 0 4 = ghI (setG G k) := by
                rw [y3.1 4 (by unfold J7; omega), mrow_ne (by decide), mrow_ne (by decide), w8.1 4 (by unfold J7; omega), mrow_ne (by decide), mset_s]
              refine .inl ⟨_, d', X5, g10, _, _, setG G k, T, U, rfl, y2, by rw [mset_no (by decide)], Lk_f y4 (by rw [mset_no (by decide)]), by omega, ⟨u2, okD_plus D2 hm (by omega) (by omega) hbs (by omega) w1 w2, ?_, ⟨by rw [mset_no (by decide)]; exact D4.1, by rw [low 2 (by decide) (by decide)]; exact D4.2.1, D4.2.2⟩, ⟨by rw [mset_no (by decide)]; exact D5.1, by rw [low 3 (by decide) (by decide)]; exact D5.2.1, D5.2.2⟩, mset_s, r104⟩, FT_tr k5 (FT_But y3)⟩
              refine MS_plus2 (g := vg g) D2.1 D3 ?_ (fun j hj => ?_) ?_ (fun j hj => ?_)
              · show g10 0 1 = g 0 1
                exact low 1 (by decide) (by decide)
              · show g10 2 _ = _
                rw [r10]
                rcases (show j = 0 ∨ j = 1 ∨ j = 2 ∨ j = 3 by omega) with rfl | rfl | rfl | rfl
                · rw [pk_un (by omega), pk_un (by omega), pk_un (by omega), pk_un (by omega), Nat.add_zero, pk_us]; rfl
                · rw [pk_un (by omega), pk_un (by omega), pk_un (by omega), pk_us]; rfl
                · rw [pk_un (by omega), pk_un (by omega), pk_us]; rfl
                · rw [pk_un (by omega), pk_us]; rfl
              · show g10 2 59 = _
                rw [r10, pk_us]
              · show g10 2 j = g 2 j
                rw [r10, pk_un (by omega), pk_un (by omega), pk_un (by omega), pk_un (by omega), pk_un (by omega)]
            · rw [y1]
              simp only [Option.bind_some]
              rw [if_pos (show nI 0 = 0 from rfl)]
              exact .inr ⟨f5, d, X5, g10, rfl, y2, y4, FT_tr k5 (FT_But y3)⟩
          · have fd := fun (r r' : Nat → Int32) => Fdd_as (g' := mrow 2 r (mrow 2 r' g8)) b4 (by rw [mrow_ne (by decide), mrow_ne (by decide)]) (by rw [mrow_ne (by decide), mrow_ne (by decide)])
            rw [b1, b2]
            simp only [Option.bind_some]
            rw [end_no (Fdd_f b4), nI_add, gd_t (inb_nI (show 35 + 4 * A 0 2 + 3 < 60 by omega) (by decide)), nI_clamp (show 35 + 4 * A 0 2 + 3 < 2 ^ 31 by omega), e59]
            unfold bnd
            dsimp only
            rw [gd_t (by decide), gd_t (by decide)]
            simp only [Option.bind_some]
            rw [if_pos (show nI 0 = 0 from rfl), tlF (fd _ _)]
            exact .inr ⟨f4, d, X4, _, rfl, rfl, fd _ _, FT_tr k4 (FT_tr (FT_But b3) (FT_tr (FT_row g8 _) (FT_row _ _)))⟩
        · have fd1 := fun (v : Int32) (r : Nat → Int32) => Fdd_as (g' := mrow 2 r (mset 0 4 v g6)) b4 (by rw [mrow_ne (by decide), mset_no (by decide)]) (by rw [mrow_ne (by decide), mset_no (by decide)])
          rw [b1, gooseHere_of b2]
          simp only [Option.bind_some]
          rw [num_no (Fdd_f b4)]
          simp only [Option.bind_some]
          rw [end_no (Fdd_f b4), nI_add, gd_t (inb_nI (show 35 + 4 * A 0 2 + 2 < 60 by omega) (by decide))]
          unfold bnd
          dsimp only
          obtain ⟨g', u1, u2, u3⟩ := tE_F (a := 35 + 4 * A 0 2) (fd1 (if nI 0 ≤ g6 0 4 then g6 0 4 else nI 0) (upd (mset 0 4 (if nI 0 ≤ g6 0 4 then g6 0 4 else nI 0) g6 2) (nI (35 + 4 * A 0 2 + 2)).toNatClampNeg (nI 0))) (by omega)
          rw [u1]
          simp only [Option.bind_some]
          rw [if_pos (show nI 0 = 0 from rfl), tlF u2]
          exact .inr ⟨f3, d, X3, g', rfl, rfl, u2, FT_tr k3 (FT_tr (FT_But b3) (FT_tr (FT_tr (FT_set g6 _ (show 1 ≤ 4 by decide) (by decide)) (FT_row _ _)) u3))⟩
      · have fd1 := fun (r : Nat → Int32) => Fdd_as (g' := mrow 2 r g4) b4 (by rw [mrow_ne (by decide)]) (by rw [mrow_ne (by decide)])
        rw [b1, b2]
        simp only [Option.bind_some]
        rw [trade33_no (Fdd_f b4), nI_add, gd_t (inb_nI (show 35 + 4 * A 0 2 + 1 < 60 by omega) (by decide))]
        unfold bnd
        dsimp only
        obtain ⟨g', u1, u2, u3⟩ := tG_F (a := 35 + 4 * A 0 2) (fd1 (upd (g4 2) (nI (35 + 4 * A 0 2 + 1)).toNatClampNeg (nI 0))) (by omega)
        rw [u1]
        simp only [Option.bind_some]
        rw [tlF u2]
        exact .inr ⟨f2, d, X2, g', rfl, rfl, u2, FT_tr k2 (FT_tr (FT_But b3) (FT_tr (FT_row g4 _) u3))⟩
  · have h7 := (Fdd_g b4).1
    rw [trade_no b1 (Fdd_f b4), b2]
    simp only [Option.bind_some]
    rw [gd_t iat]
    unfold bnd
    dsimp only
    rw [if_neg h7]
    obtain ⟨g', u1, u2, u3⟩ := B59_F (a := 35 + 4 * A 0 2) (Fdd_as (g' := mrow 2 (upd (g2 2) (nI (35 + 4 * A 0 2)).toNatClampNeg (nI 0)) g2) b4 (by rw [mrow_ne (by decide)]) (by rw [mrow_ne (by decide)])) (by omega)
    rw [u1]
    simp only [Option.bind_some]
    rw [tlF u2]
    exact .inr ⟨f1, d, X1, g', rfl, rfl, u2, FT_tr (FT_But b3) (FT_tr (FT_row g2 _) u3)⟩
end TXG

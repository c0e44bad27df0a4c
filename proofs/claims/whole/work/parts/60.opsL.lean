/-! ===== the calls, one by one: the best row of trades ===== -/
section OPSL
variable {x0 x1 x2 x3 x4 x5 x6 x7 x8 s0 s1 s2 s3 g : Mem} {A : Fk}
/-- what the class has weighed: by rows whose first trade is one of the first i -/
def C1 (A : Fk) (o n K : Nat) (cl : Nat → Nat) (i x : Nat) : Prop := x = r0 A o ∨ (∃ a, a < i ∧ x = r1 A o (cl a)) ∨ (2 ≤ n ∧ ∃ a b, a < i ∧ a ≤ b ∧ b < K ∧ vC (xC A o (cl a)) o (cl b) = true ∧ x = r2 A o (cl a) (cl b))
def C2 (A : Fk) (o n K : Nat) (cl : Nat → Nat) (i j x : Nat) : Prop := (C1 A o n K cl i x ∨ x = r1 A o (cl i)) ∨ ∃ b, i ≤ b ∧ b < j ∧ vC (xC A o (cl i)) o (cl b) = true ∧ x = r2 A o (cl i) (cl b)
/-- the list of codes, fixed -/
def CF (A : Fk) (o K : Nat) (cl : Nat → Nat) (f : Mem) : Prop := f 0 0 = nI K ∧ f 0 1 = nI o ∧ ∀ i, i < K → f 1 i = nI (cl i)
theorem CF_KC {f f' : Mem} {o K : Nat} {cl : Nat → Nat} (h : CF A o K cl f) (k : KC f f') : CF A o K cl f' := ⟨k.2.1.trans h.1, k.2.2.trans h.2.1, fun i hi => by rw [k.1 1 (by decide)]; exact h.2.2 i hi⟩
theorem pairs_eq {fo : Mem} (h0 : enc fo A) (hk : okF A) {o n K i : Nat} {cl : Nat → Nat} (ho : o < 5) (hn : 2 ≤ n) (hK : K ≤ 135) (hi : i < K) (hcl : ∀ i, i < K → cl i < 500 ∧ vC A o (cl i) = true) (hlt : ∀ i j, i < j → j < K → cl i < cl j) {f ff : Mem} {r : Nat} (hf : CF A o K cl f) (hff : enc ff (xC A o (cl i))) (hs : STc f r) (hr : IsMin (C2 A o n K cl i i) r) : ∃ f' ff' r', p_X1_weighPairs f ff fo (nI i) = some (f', ff') ∧ CF A o K cl f' ∧ enc ff' (xC A o (cl i)) ∧ STc f' r' ∧ IsMin (C2 A o n K cl i K) r' := by
  obtain ⟨ci, vi⟩ := hcl i hi
  have okx := okF_xC hk ho ci vi
  have hnei := vC_ne hk ho ci vi
  obtain ⟨x, hx, hQ⟩ := lp_ex (b := p_X1_weighPairs_L2 fo (nI i)) (I := fun j z => i ≤ j ∧ z.1 = nI j ∧ CF A o K cl z.2.1 ∧ enc z.2.2 (xC A o (cl i)) ∧ ∃ r, STc z.2.1 r ∧ IsMin (C2 A o n K cl i j) r) (Q := fun z => CF A o K cl z.1 ∧ enc z.2 (xC A o (cl i)) ∧ ∃ r, STc z.1 r ∧ IsMin (C2 A o n K cl i K) r) K
    (fun j hj z hz => by
      obtain ⟨z1, z2, z3⟩ := z
      obtain ⟨hij, rfl, e1, e2, r, e3, e4⟩ := hz
      dsimp only at e1 e2 e3
      obtain ⟨cj, vj⟩ := hcl j hj
      obtain ⟨b1, b2, b3, b4⟩ := vC_of hk ho cj vj
      have d1 : nI (cl j) / nI 100 = nI (cl j / 100) := pk_div (by omega) (by decide) (by decide)
      have d2 : (nI (cl j) / nI 10) - (nI (cl j) / nI 10) / nI 10 * nI 10 = nI (cl j / 10 % 10) := by rw [pk_div (by omega) (by decide) (by decide), pk_rem (by omega) (by decide) (by decide)]
      have d3 : nI (cl j) - nI (cl j) / nI 10 * nI 10 = nI (cl j % 10) := pk_rem (by omega) (by decide) (by decide)
      have ij : inb (nI j) 135 = true := inb_nI (by omega) (by decide)
      have gx : cl j / 10 % 10 < xC A o (cl i) 0 0 := by rw [xC_00]; exact b2
      unfold p_X1_weighPairs_L2 p_X1_sellerOf p_X1_gooseOf p_X1_amountOf
      dsimp only
      rw [e1.1, if_neg (nI_ge hj (by omega)), gd_t ij, nI_clamp (show j < 2 ^ 31 by omega), e1.2.2 j hj]
      simp only [Option.bind_some]
      rw [d1, d2, d3, e1.2.1, canTrade_eq e2 okx ho (show cl j / 100 < 5 by omega) gx (show cl j % 10 < 1000 by omega)]
      simp only [Option.bind_some, bI_0]
      have hvc : vC (xC A o (cl i)) o (cl j) = true ↔ canT (xC A o (cl i)) o (cl j / 100) (cl j / 10 % 10) (cl j % 10) = true := by
        rw [vC_iff okx ho cj]
        exact ⟨fun h => h.2.2.2, fun h => ⟨b1, gx, b3, h⟩⟩
      cases hct : canT (xC A o (cl i)) o (cl j / 100) (cl j / 10 % 10) (cl j % 10) with
      | false =>
        rw [ite_ff, nI_add]
        refine ⟨_, rfl, by omega, rfl, e1, e2, r, e3, IsMin_same e4 (fun x => ⟨?_, ?_⟩)⟩
        · rintro (h | ⟨b, q1, q2, q3, rfl⟩)
          · exact .inl h
          · by_cases hbj : b = j
            · subst hbj
              rw [hct] at hvc
              cases hvc.mp q3
            · exact .inr ⟨b, q1, by omega, q3, rfl⟩
        · rintro (h | ⟨b, q1, q2, q3, rfl⟩)
          · exact .inl h
          · exact .inr ⟨b, q1, by omega, q3, rfl⟩
      | true =>
        have hv := hvc.mpr hct
        have ok2 := okF_xC okx ho cj hv
        have l1 := xC_money (A := A) ho ci hnei
        have l2 := xC_money (A := xC A o (cl i)) ho cj b1
        obtain ⟨f1, u1, u2⟩ := make_eq e1.2.1 e2 okx ho cj hv
        have hord : r / 250000 = r2 A o (cl i) (cl j) / 250000 → r < r2 A o (cl i) (cl j) := fun he => by
          obtain ⟨Xq, eq⟩ := r2_X A o (cl i) (cl j)
          rw [eq] at he ⊢
          rcases e4.1 with ((h | ⟨a, ha, h⟩ | ⟨-, a, b, ha, hab, hb, -, h⟩) | h) | ⟨b, hib, hb, -, h⟩
          · obtain ⟨X, e⟩ := r0_X A o
            rw [h, e] at he ⊢
            omega
          · obtain ⟨X, e⟩ := r1_X A o (cl a)
            have := (hcl a (by omega)).1
            rw [h, e] at he ⊢
            omega
          · obtain ⟨X, e⟩ := r2_X A o (cl a) (cl b)
            have w1 := hlt a i ha hi
            have w2 := (hcl b hb).1
            rw [h, e] at he ⊢
            omega
          · obtain ⟨X, e⟩ := r1_X A o (cl i)
            rw [h, e] at he ⊢
            omega
          · obtain ⟨X, e⟩ := r2_X A o (cl i) (cl b)
            have w1 := hlt b j hb hj
            rw [h, e] at he ⊢
            omega
        obtain ⟨f2, v1, v2, v3⟩ := weigh_eq (le := 2) (fi := cl i) (se := cl j) e1.2.1 h0 hk u2 ok2 ho (Nat.le_trans l2 l1) (by decide) ci cj e3 hord
        rw [if_neg (by decide), if_neg (by decide)] at v1
        have cf := CF_KC e1 v3
        obtain ⟨f3, w1, w2⟩ := unmake_eq (f := f2) cf.2.1 okx ho cj hv u2
        rw [ite_tf, u1]
        simp only [Option.bind_some]
        rw [gd_t (inb_nI (show i < 135 by omega) (by decide)), nI_clamp (show i < 2 ^ 31 by omega), e1.2.2 i hi, v1]
        simp only [Option.bind_some]
        rw [w1]
        simp only [Option.bind_some]
        rw [nI_add]
        refine ⟨_, rfl, by omega, rfl, cf, w2, _, v2, IsMin_add e4 (fun x => ⟨?_, ?_⟩)⟩
        · rintro (h | ⟨b, q1, q2, q3, rfl⟩)
          · exact .inl (.inl h)
          · by_cases hbj : b = j
            · subst hbj; exact .inr rfl
            · exact .inl (.inr ⟨b, q1, by omega, q3, rfl⟩)
        · rintro ((h | ⟨b, q1, q2, q3, rfl⟩) | rfl)
          · exact .inl h
          · exact .inr ⟨b, q1, by omega, q3, rfl⟩
          · exact .inr ⟨j, hij, by omega, hv, rfl⟩)
    (fun z hz => by
      obtain ⟨z1, z2, z3⟩ := z
      obtain ⟨hij, rfl, e1, e2, e3⟩ := hz
      dsimp only at e1 e2 e3
      refine ⟨(z2, z3), ?_, e1, e2, e3⟩
      unfold p_X1_weighPairs_L2
      dsimp only
      rw [e1.1, if_pos (Int32.le_refl _)]) (i := i) (s := (nI i, f, ff)) (by omega) ⟨Nat.le_refl i, rfl, hf, hff, r, hs, hr⟩
  obtain ⟨y1, y2⟩ := x
  obtain ⟨h1, h2, r', h3, h4⟩ := hQ
  refine ⟨y1, y2, r', ?_, h1, h2, h3, h4⟩
  unfold p_X1_weighPairs
  rw [hx]
  rfl
theorem findLoop_eq {fo : Mem} (h0 : enc fo A) (hk : okF A) {o n K : Nat} {cl : Nat → Nat} (ho : o < 5) (hn : n ≤ 2) (hK : K ≤ 135) (hcl : ∀ i, i < K → cl i < 500 ∧ vC A o (cl i) = true) (hlt : ∀ i j, i < j → j < K → cl i < cl j) {f ff : Mem} {r : Nat} (hf : CF A o K cl f) (hff : enc ff A) (hs : STc f r) (hr : IsMin (C1 A o n K cl 0) r) : ∃ f' ff' r', lp (p_X1_findBest_L57 fo (nI n)) (nI 0, f, ff) = some (f', ff') ∧ STc f' r' ∧ IsMin (C1 A o n K cl (if n = 0 then 0 else K)) r' := by
  by_cases hn0 : n = 0
  · subst hn0
    refine ⟨f, ff, r, lp_r ?_, hs, hr⟩
    unfold p_X1_findBest_L57
    dsimp only
    by_cases h : f 0 0 ≤ nI 0
    · rw [if_pos h]
    · rw [if_neg h, if_pos (by decide)]
  · rw [if_neg hn0]
    obtain ⟨x, hx, hQ⟩ := lp_ex (b := p_X1_findBest_L57 fo (nI n)) (I := fun i z => z.1 = nI i ∧ CF A o K cl z.2.1 ∧ enc z.2.2 A ∧ ∃ r, STc z.2.1 r ∧ IsMin (C1 A o n K cl i) r) (Q := fun z => ∃ r, STc z.1 r ∧ IsMin (C1 A o n K cl K) r) K
      (fun i hi z hz => by
        obtain ⟨z1, z2, z3⟩ := z
        obtain ⟨rfl, e1, e2, r, e3, e4⟩ := hz
        dsimp only at e1 e2 e3
        obtain ⟨ci, vi⟩ := hcl i hi
        have okx := okF_xC hk ho ci vi
        have hnei := vC_ne hk ho ci vi
        have l1 := xC_money (A := A) ho ci hnei
        have ij : inb (nI i) 135 = true := inb_nI (by omega) (by decide)
        obtain ⟨f1, u1, u2⟩ := make_eq e1.2.1 e2 hk ho ci vi
        have hord : r / 250000 = r1 A o (cl i) / 250000 → r < r1 A o (cl i) := fun he => by
          obtain ⟨Xq, eq⟩ := r1_X A o (cl i)
          rw [eq] at he ⊢
          rcases e4.1 with h | ⟨a, ha, h⟩ | ⟨-, a, b, ha, hab, hb, -, h⟩
          · obtain ⟨X, e⟩ := r0_X A o
            rw [h, e] at he ⊢
            omega
          · obtain ⟨X, e⟩ := r1_X A o (cl a)
            have := hlt a i ha hi
            rw [h, e] at he ⊢
            omega
          · obtain ⟨X, e⟩ := r2_X A o (cl a) (cl b)
            have w2 := (hcl b hb).1
            have w1 := (hcl a (by omega)).1
            rw [h, e] at he ⊢
            omega
        obtain ⟨f2, v1, v2, v3⟩ := weigh_eq (le := 1) (fi := cl i) (se := 0) e1.2.1 h0 hk u2 okx ho l1 (by decide) ci (by decide) e3 hord
        rw [if_neg (by decide), if_pos (by decide)] at v1
        have cf := CF_KC e1 v3
        have m2 : IsMin (C2 A o n K cl i i) (min r (r1 A o (cl i))) := IsMin_same (IsMin_add (Q := fun x => C1 A o n K cl i x ∨ x = r1 A o (cl i)) e4 (fun x => Iff.rfl)) (fun x => ⟨fun h => by
          rcases h with h | ⟨b, q1, q2, -⟩
          · exact h
          · omega, fun h => .inl h⟩)
        have tail : ∀ (f3 f4 : Mem) (r' : Nat), CF A o K cl f3 → enc f4 (xC A o (cl i)) → STc f3 r' → IsMin (C1 A o n K cl (i + 1)) r' → ∃ s', p_X1_findBest_B110 f3 f4 fo (nI n) (nI i) = some (.inl s') ∧ s'.1 = nI (i + 1) ∧ CF A o K cl s'.2.1 ∧ enc s'.2.2 A ∧ ∃ r, STc s'.2.1 r ∧ IsMin (C1 A o n K cl (i + 1)) r := fun f3 f4 r' y1 y2 y3 y4 => by
          obtain ⟨f5, w1, w2⟩ := unmake_eq (f := f3) y1.2.1 hk ho ci vi y2
          unfold p_X1_findBest_B110
          rw [gd_t ij, nI_clamp (by omega), y1.2.2 i hi, w1]
          simp only [Option.bind_some]
          rw [nI_add]
          exact ⟨_, rfl, rfl, y1, w2, r', y3, y4⟩
        unfold p_X1_findBest_L57
        dsimp only
        rw [e1.1, if_neg (nI_ge hi (by omega)), if_neg (fun z => by have := (nI_ltI (by omega) (by decide)).mp z; omega), gd_t ij, nI_clamp (show i < 2 ^ 31 by omega), e1.2.2 i hi, u1]
        simp only [Option.bind_some]
        rw [gd_t ij, v1]
        simp only [Option.bind_some]
        by_cases hn1 : n = 1
        · rw [if_pos ((nI_ltI (by omega) (by decide)).mpr (by omega))]
          refine tail f2 f1 _ cf u2 v2 (IsMin_same m2 (fun x => ⟨?_, ?_⟩))
          · rintro (h | ⟨a, ha, rfl⟩ | ⟨h2, -⟩)
            · exact .inl (.inl (.inl h))
            · by_cases hai : a = i
              · subst hai; exact .inl (.inr rfl)
              · exact .inl (.inl (.inr (.inl ⟨a, by omega, rfl⟩)))
            · omega
          · rintro (((h | ⟨a, ha, rfl⟩ | ⟨h2, -⟩) | rfl) | ⟨b, q1, q2, -⟩)
            · exact .inl h
            · exact .inr (.inl ⟨a, by omega, rfl⟩)
            · omega
            · exact .inr (.inl ⟨i, by omega, rfl⟩)
            · omega
        · rw [if_neg (fun z => by have := (nI_ltI (by omega) (by decide)).mp z; omega)]
          obtain ⟨f3, f4, r', w1, w2, w3, w4, w5⟩ := pairs_eq h0 hk ho (show 2 ≤ n by omega) hK hi hcl hlt cf u2 v2 m2
          rw [w1]
          simp only [Option.bind_some]
          refine tail f3 f4 r' w2 w3 w4 (IsMin_same w5 (fun x => ⟨?_, ?_⟩))
          · rintro (h | ⟨a, ha, rfl⟩ | ⟨h2, a, b, ha, hab, hb, hv, rfl⟩)
            · exact .inl (.inl (.inl h))
            · by_cases hai : a = i
              · subst hai; exact .inl (.inr rfl)
              · exact .inl (.inl (.inr (.inl ⟨a, by omega, rfl⟩)))
            · by_cases hai : a = i
              · subst hai; exact .inr ⟨b, hab, hb, hv, rfl⟩
              · exact .inl (.inl (.inr (.inr ⟨h2, a, b, by omega, hab, hb, hv, rfl⟩)))
          · rintro (((h | ⟨a, ha, rfl⟩ | ⟨h2, a, b, ha, hab, hb, hv, rfl⟩) | rfl) | ⟨b, q1, q2, q3, rfl⟩)
            · exact .inl h
            · exact .inr (.inl ⟨a, by omega, rfl⟩)
            · exact .inr (.inr ⟨h2, a, b, by omega, hab, hb, hv, rfl⟩)
            · exact .inr (.inl ⟨i, by omega, rfl⟩)
            · exact .inr (.inr ⟨by omega, i, b, by omega, q1, q2, q3, rfl⟩))
      (fun z hz => by
        obtain ⟨z1, z2, z3⟩ := z
        obtain ⟨rfl, e1, e2, e3⟩ := hz
        dsimp only at e1 e2 e3
        refine ⟨(z2, z3), ?_, e3⟩
        unfold p_X1_findBest_L57
        dsimp only
        rw [e1.1, if_pos (Int32.le_refl _)]) (i := 0) (s := (nI 0, f, ff)) (by omega) ⟨rfl, hf, hff, r, hs, hr⟩
    obtain ⟨y1, y2⟩ := x
    obtain ⟨r', h3, h4⟩ := hQ
    exact ⟨y1, y2, r', hx, h3, h4⟩
theorem findBest_eq {f ff : Mem} (h : enc x1 A) (hk : okF A) {o n : Nat} (ho : o < 5) (hn : n ≤ 2) : ∃ f' ff' r', p_X1_findBest f ff x1 (nI o) (nI n) = some (f', ff') ∧ STc f' r' ∧ IsMin (PB A o n) r' := by
  have gl := gcN_le A o
  obtain ⟨f1, c1, c2⟩ := copyFrom_eq (f := ff) h hk
  obtain ⟨f2, K, d1, d2, d3, d4⟩ := listCodes_eq (f := mset 0 6 (-4 : Int32) (mset 0 5 (-4 : Int32) (mset 0 4 (nI 0) (mset 0 3 (nI 0) (mset 0 2 (nI (gcN A o)) (mset 0 1 (nI o) f)))))) c2 hk ho (by rw [mset_no (by decide), mset_no (by decide), mset_no (by decide), mset_no (by decide), mset_no (by decide), mset_s])
  obtain ⟨e1, e2, cl, e3, e4, e5⟩ := d2
  have st0 : STc f2 (r0 A o) := by
    unfold STc
    rw [d4 2 (by decide), d4 3 (by decide), d4 4 (by decide), d4 5 (by decide), d4 6 (by decide)]
    exact STc_set (mset 0 1 (nI o) f) (le := 0) (fi := 0) (se := 0) gl (by decide) (by decide) (by decide) (by decide)
  have m0 : IsMin (C1 A o n K cl 0) (r0 A o) := ⟨.inl rfl, fun x hx => by
    rcases hx with rfl | ⟨a, ha, -⟩ | ⟨-, a, b, ha, -⟩
    · exact Nat.le_refl _
    · omega
    · omega⟩
  obtain ⟨f3, f4, r', u1, u2, u3⟩ := findLoop_eq h hk ho hn d3 (fun i hi => ⟨(e3 i hi).2.1, (e3 i hi).2.2.1⟩) e4 (f := f2) (ff := f1) ⟨e1, e2, fun i hi => (e3 i hi).1⟩ c2 st0 m0
  refine ⟨f3, f4, r', ?_, u2, ?_, ?_⟩
  · unfold p_X1_findBest
    rw [c1]
    simp only [Option.bind_some]
    rw [geeseWithEggOf_eq c2 hk ho]
    simp only [Option.bind_some]
    rw [gcN_c hk]
    simp only [Option.bind_some]
    rw [d1]
    simp only [Option.bind_some]
    rw [u1]
    rfl
  · rcases u3.1 with h | ⟨a, ha, h⟩ | ⟨h2, a, b, ha, hab, hb, hv, h⟩
    · exact .inl h
    · split at ha
      · omega
      · exact .inr (.inl ⟨by omega, cl a, (e3 a ha).2.1, (e3 a ha).2.2.1, h⟩)
    · rw [if_neg (by omega)] at ha
      exact .inr (.inr ⟨h2, cl a, cl b, (e3 a ha).2.1, (e3 b hb).2.1, (e3 a ha).2.2.1, hv, h⟩)
  · intro x hx
    have low : ∀ y, C1 A o n K cl (if n = 0 then 0 else K) y → y ≤ x → r' ≤ x := fun y h1 h2 => Nat.le_trans (u3.2 y h1) h2
    rcases hx with h | ⟨h1, c, hc, hv, h⟩ | ⟨h2, c, d, hc, hd, hvc, hvd, h⟩
    · exact low x (.inl h) (Nat.le_refl x)
    · obtain ⟨i, hi, e⟩ := e5 c hc hc hv
      refine low x (.inr (.inl ⟨i, by rw [if_neg (by omega)]; exact hi, by rw [e]; exact h⟩)) (Nat.le_refl x)
    · obtain ⟨v1, v2⟩ := vC_swap hk ho hc hd hvc hvd
      obtain ⟨i, hi, ei⟩ := e5 c hc hc hvc
      obtain ⟨j, hj, ej⟩ := e5 d hd hd v1
      by_cases hij : i ≤ j
      · exact low x (.inr (.inr ⟨h2, i, j, by rw [if_neg (by omega)]; exact hi, hij, hj, by rw [ei, ej]; exact hvd, by rw [ei, ej]; exact h⟩)) (Nat.le_refl x)
      · have hlt := e4 j i (by omega) hi
        rw [ei, ej] at hlt
        refine low (r2 A o d c) (.inr (.inr ⟨h2, j, i, by rw [if_neg (by omega)]; exact hj, by omega, hi, by rw [ei, ej]; exact v2, by rw [ei, ej]⟩)) ?_
        have ec := xC_comm hk ho hc hd (vC_ne hk ho hc hvc) (vC_ne hk ho hd v1)
        rw [h]
        unfold r2
        rw [ec]
        unfold rk
        omega
theorem op_best (R : Rel x0 x1 x3 x4 x5 x6 x8 s0 s1 s2 s3 g) (x9 x10 : Mem) (a b c : Int32) : ∃ r x9' x10' g', p_X6_best x0 x1 x9 x10 a b c = some (r, x9', x10') ∧ p_X7_best g a b c = some (r, g') ∧ Rel x0 x1 x3 x4 x5 x6 x8 s0 s1 s2 s3 g' := by
  have R0 := R
  obtain ⟨A, h, hk, hm, hR⟩ := R
  unfold p_X6_best p_X7_best
  rw [isOwner_eq, isOwnerM_eq, isWithin_eq, isWithin_eq, isWithin_eq, in_c0 2 (by decide), in_c0 2 (by decide), in_c 10 11 (by decide) (by decide)]
  simp only [Option.bind_some, bI_0]
  cases hO : wi a (nI 0) (nI 4) with
  | false => exact ⟨-1, x9, x10, g, rfl, rfl, R0⟩
  | true =>
    obtain ⟨o, ho, rfl⟩ := wi_of (by decide) hO
    rw [ite_tf, ite_tf]
    cases hN : wi b (nI 0) (nI 2) with
    | false => exact ⟨-1, x9, x10, g, rfl, rfl, R0⟩
    | true =>
      obtain ⟨n, hn, rfl⟩ := wi_of (by decide) hN
      obtain ⟨f1, f2, r', u1, u2, u3⟩ := findBest_eq (f := x9) (ff := x10) h hk (show o < 5 by omega) hn
      obtain ⟨g1, v1, v2, v3⟩ := compares_0 (A := A) (f := mset 0 16 (-1) g) (MS_as hm (mset_no (by decide)) (mset_ne (by decide))) hk (show o < 5 by omega) mset_s
      have k1 : Keep g g1 := Keep_tr (Keep_mset (by decide)) (KB_Keep v3)
      obtain ⟨g2, r2', w1, w2, w3, w4⟩ := bestLoop_eq (n := n) hm hk (show o < 5 by omega) hn c k1 v2 (⟨.inl rfl, fun x hx => by
        rcases hx with rfl | ⟨d, hd, -⟩
        · exact Nat.le_refl _
        · omega⟩ : IsMin (P1 A o 0) (rk (gcN A o) 0 0 0 0))
      have er : r' = r2' := Nat.le_antisymm (u3.2 _ w4.1) (w4.2 _ u3.1)
      subst er
      obtain ⟨t1, t2, t3, t4, t5⟩ := ST_det u2 w3
      have body : ∃ r x9' x10' g', p_X6_best_B40 x0 x1 x9 x10 (nI o) (nI n) c = some (r, x9', x10') ∧ p_X7_best_B47 g (nI o) (nI n) c = some (r, g') ∧ Rel x0 x1 x3 x4 x5 x6 x8 s0 s1 s2 s3 g' := by
        unfold p_X6_best_B40 p_X7_best_B47
        rw [u1, v1]
        simp only [Option.bind_some]
        rw [w1]
        simp only [Option.bind_some]
        rw [t1, t2, t3, t4, t5]
        by_cases c0 : c = nI 0
        · rw [if_pos c0, if_pos (show c = 0 from c0)]
          exact ⟨_, _, _, _, rfl, rfl, Rel_Keep R0 w2⟩
        rw [if_neg c0, if_neg (show ¬ c = 0 from c0)]
        by_cases c1 : c = nI 1
        · rw [if_pos c1, if_pos c1]
          exact ⟨_, _, _, _, rfl, rfl, Rel_Keep R0 w2⟩
        rw [if_neg c1, if_neg c1]
        by_cases c2 : c = nI 2
        · rw [if_pos c2, if_pos c2]
          exact ⟨_, _, _, _, rfl, rfl, Rel_Keep R0 w2⟩
        rw [if_neg c2, if_neg c2]
        by_cases c3 : c = nI 10
        · rw [if_pos c3, if_pos c3]
          exact ⟨_, _, _, _, rfl, rfl, Rel_Keep R0 w2⟩
        rw [if_neg c3, if_neg c3]
        exact ⟨_, _, _, _, rfl, rfl, Rel_Keep R0 w2⟩
      rw [ite_tf, ite_tf]
      cases hW : wi c (nI 0) (nI 2) with
      | true =>
        rw [ite_tf, ite_tf]
        exact body
      | false =>
        rw [ite_ff, ite_ff]
        cases hV : wi c (nI 10) (nI 11) with
        | false => exact ⟨-1, x9, x10, g, rfl, rfl, R0⟩
        | true =>
          rw [ite_tf, ite_tf]
          exact body
end OPSL

/-! ===== rows of trades: the model's search ===== -/
section OPSJ
variable {x0 x1 x2 x3 x4 x5 x6 x7 x8 s0 s1 s2 s3 g : Mem} {A : Fk}
theorem buysBy_eq {f : Mem} {B : Fk} {pg o c : Nat} (hm : MS f pg B) (hk : okF B) (hp : pg ≤ 300) (ho : o < 5) (hc : c < 500) : ∃ f', p_X7_buysBy f (nI pg) (nI o) (nI c) = some (bI (vC B o c), f') ∧ MS f' pg (if vC B o c = true then xC B o c else B) ∧ Fr pg f f' := by
  have h3 := hk.1.1
  have d1 : nI c / nI 100 = nI (c / 100) := pk_div (by omega) (by decide) (by decide)
  have d2 : (nI c / nI 10) - (nI c / nI 10) / nI 10 * nI 10 = nI (c / 10 % 10) := by rw [pk_div (by omega) (by decide) (by decide), pk_rem (by omega) (by decide) (by decide)]
  have d3 : nI c - nI c / nI 10 * nI 10 = nI (c % 10) := pk_rem (by omega) (by decide) (by decide)
  unfold p_X7_buysBy
  rw [d1, d2, d3, isTradeM_eq hm.1]
  simp only [Option.bind_some, bI_0]
  cases hT : isT B (nI o) (nI (c / 100)) (nI (c / 10 % 10)) (nI (c % 10)) with
  | false =>
    have hv : vC B o c = false := by unfold vC canI; rw [hT, Bool.false_and]
    rw [hv, ite_ff, if_neg (by decide)]
    exact ⟨f, rfl, hm, Fr_rfl pg f⟩
  | true =>
    obtain ⟨b, s, k, n, e1, e2, e3, e4, hb, hs, hbs, hg, hn1, hn⟩ := isT_of hk hT
    have f1 := (nI_eq (by omega) (by omega)).mp e1
    have f2 := (nI_eq (by omega) (by omega)).mp e2
    have f3 := (nI_eq (by omega) (by omega)).mp e3
    have f4 := (nI_eq (by omega) (by omega)).mp e4
    unfold vC xC
    rw [f1, f2, f3, f4, canI_nI h3 hb hs hbs hg hn1 hn, ite_tf]
    obtain ⟨g', q1, q2, q3⟩ := buysOn_eq hm hk hp hb hs hg (show n < 1000 by omega)
    rw [q1]
    simp only [Option.bind_some, bI_0]
    refine ⟨g', ?_, q2, q3⟩
    cases canT B b s k n <;> rfl
def IsMin (P : Nat → Prop) (r : Nat) : Prop := P r ∧ ∀ x, P x → r ≤ x
theorem IsMin_add {P Q : Nat → Prop} {r q : Nat} (h : IsMin P r) (hQ : ∀ x, Q x ↔ P x ∨ x = q) : IsMin Q (min r q) := by
  refine ⟨?_, fun x hx => ?_⟩
  · rcases Nat.le_total r q with hc | hc
    · rw [Nat.min_eq_left hc]; exact (hQ r).mpr (.inl h.1)
    · rw [Nat.min_eq_right hc]; exact (hQ q).mpr (.inr rfl)
  · rcases (hQ x).mp hx with hp | rfl
    · have := h.2 x hp; omega
    · omega
theorem IsMin_same {P Q : Nat → Prop} {r : Nat} (h : IsMin P r) (hQ : ∀ x, Q x ↔ P x) : IsMin Q r := ⟨(hQ r).mpr h.1, fun x hx => h.2 x ((hQ x).mp hx)⟩
def r0 (A : Fk) (o : Nat) : Nat := rk (gcN A o) 0 0 0 0
def r1 (A : Fk) (o c : Nat) : Nat := rk (gcN (xC A o c) o) (A 5 o - xC A o c 5 o) 1 c 0
def r2 (A : Fk) (o c d : Nat) : Nat := rk (gcN (xC (xC A o c) o d) o) (A 5 o - xC (xC A o c) o d 5 o) 2 c d
theorem rk_X (ge mo le fi se : Nat) : rk ge mo le fi se = (((5 - ge) * 1000 + mo) * 3 + le) * 250000 + fi * 500 + se := rfl
theorem r0_X (A : Fk) (o : Nat) : ∃ X, r0 A o = (X * 3 + 0) * 250000 := ⟨(5 - gcN A o) * 1000 + 0, by unfold r0 rk; omega⟩
theorem r1_X (A : Fk) (o c : Nat) : ∃ X, r1 A o c = (X * 3 + 1) * 250000 + c * 500 := ⟨(5 - gcN (xC A o c) o) * 1000 + (A 5 o - xC A o c 5 o), by unfold r1 rk; omega⟩
theorem r2_X (A : Fk) (o c d : Nat) : ∃ X, r2 A o c d = (X * 3 + 2) * 250000 + c * 500 + d := ⟨(5 - gcN (xC (xC A o c) o d) o) * 1000 + (A 5 o - xC (xC A o c) o d 5 o), rfl⟩
def P1 (A : Fk) (o i x : Nat) : Prop := x = r0 A o ∨ ∃ c, c < i ∧ vC A o c = true ∧ x = r1 A o c
def P2 (A : Fk) (o i x : Nat) : Prop := P1 A o 500 x ∨ ∃ c d, c < i ∧ d < 500 ∧ vC A o c = true ∧ vC (xC A o c) o d = true ∧ x = r2 A o c d
def P3 (A : Fk) (o i j x : Nat) : Prop := P2 A o i x ∨ ∃ d, d < j ∧ vC A o i = true ∧ vC (xC A o i) o d = true ∧ x = r2 A o i d
theorem P1_low {A : Fk} {o i x : Nat} (hi : i ≤ 500) (h : P1 A o i x) : x % 750000 < 250000 + i * 500 ∧ x % 750000 < 500000 := by
  rcases h with rfl | ⟨c, hc, -, rfl⟩
  · obtain ⟨X, e⟩ := r0_X A o
    rw [e]; omega
  · obtain ⟨X, e⟩ := r1_X A o c
    rw [e]; omega
theorem P3_low {A : Fk} {o i j x : Nat} (hi : i < 500) (hj : j ≤ 500) (h : P3 A o i j x) : x % 750000 < 500000 + i * 500 + j := by
  rcases h with (h | ⟨c, d, hc, hd, -, -, rfl⟩) | ⟨d, hd, -, -, rfl⟩
  · have := (P1_low (by decide) h).2
    omega
  · obtain ⟨X, e⟩ := r2_X A o c d
    rw [e]; omega
  · obtain ⟨X, e⟩ := r2_X A o i d
    rw [e]; omega
theorem KB_Keep {f f' : Mem} (h : KB f f') : Keep f f' := ⟨⟨fun j hj => h.2 j (by omega), fun j _ _ => by rw [h.1 1 (by decide)], fun i h1 _ => h.1 i (by omega)⟩, fun j _ => by rw [h.1 1 (by decide)]⟩
theorem KB_MS {f f' : Mem} {pg : Nat} {B : Fk} (h : KB f f') (hm : MS f pg B) : MS f' pg B := MS_as hm (h.2 0 (by omega)) (h.1 1 (by decide))
theorem STm_Fr {f f' : Mem} {q r : Nat} (h : STm f r) (hf : Fr q f f') : STm f' r := by
  unfold STm
  rw [hf.1 0 (by decide)]
  exact h
theorem vC_ne (hk : okF A) {o c : Nat} (ho : o < 5) (hc : c < 500) (h : vC A o c = true) : o ≠ c / 100 := (vC_of hk ho hc h).1
/-- pairs behind a first trade -/
theorem rows49 (hm : MS g 0 A) (hk : okF A) {o c : Nat} (ho : o < 5) (hc : c < 500) (hv : vC A o c = true) {f : Mem} {r : Nat} (hf : Keep g f) (hx : MS f 300 (xC A o c)) (hs : STm f r) (hr : IsMin (P3 A o c 0) r) : ∃ f' r', lp (p_X7_rowsOf_L49 (nI o) (nI 2) (nI c)) (nI 0, f) = some f' ∧ Keep g f' ∧ STm f' r' ∧ IsMin (P3 A o c 500) r' := by
  have okx := okF_xC hk ho hc hv
  have hne := vC_ne hk ho hc hv
  obtain ⟨x, hx1, hQ⟩ := lp_ex (b := p_X7_rowsOf_L49 (nI o) (nI 2) (nI c)) (I := fun i z => z.1 = nI i ∧ Keep g z.2 ∧ MS z.2 300 (xC A o c) ∧ ∃ r, STm z.2 r ∧ IsMin (P3 A o c i) r) (Q := fun z => Keep g z ∧ ∃ r, STm z r ∧ IsMin (P3 A o c 500) r) 500
    (fun i hi z hz => by
      obtain ⟨z1, z2⟩ := z
      obtain ⟨rfl, e1, e2, r, e3, e4⟩ := hz
      dsimp only at e1 e2 e3
      obtain ⟨g1, t1, t2, t3⟩ := copyOn_eq (a := 300) (b := 240) okx e2 (by decide) (by decide) (.inr (by decide))
      obtain ⟨f2, u1, u2, u3⟩ := buysBy_eq t2 okx (by decide) ho hi
      have k1 : Keep g f2 := Keep_tr e1 (Keep_tr (Fr_Keep t3 (by decide)) (Fr_Keep u3 (by decide)))
      have m3 : MS f2 300 (xC A o c) := MS_Fr okx (MS_Fr okx e2 t3 (.inr (by decide))) u3 (.inr (by decide))
      have st := STm_Fr (STm_Fr e3 t3) u3
      unfold p_X7_rowsOf_L49
      dsimp only
      rw [if_neg (nI_ge hi (by decide)), if_pos rfl, t1]
      simp only [Option.bind_some]
      rw [u1]
      simp only [Option.bind_some, bI_0]
      cases hvi : vC (xC A o c) o i with
      | false =>
        rw [ite_ff, nI_add]
        refine ⟨_, rfl, rfl, k1, m3, r, st, IsMin_same e4 (fun x => ⟨?_, ?_⟩)⟩
        · rintro (h | ⟨d, hd, h1, h2, rfl⟩)
          · exact .inl h
          · by_cases hdi : d = i
            · subst hdi; rw [hvi] at h2; cases h2
            · exact .inr ⟨d, by omega, h1, h2, rfl⟩
        · rintro (h | ⟨d, hd, h1, h2, rfl⟩)
          · exact .inl h
          · exact .inr ⟨d, by omega, h1, h2, rfl⟩
      | true =>
        rw [hvi, if_pos rfl] at u2
        have ok2 := okF_xC okx ho hi hvi
        have m0 := MS_Keep hk hm k1
        have l1 := xC_money (A := A) ho hc hne
        have l2 := xC_money (A := xC A o c) ho hi (vC_ne okx ho hi hvi)
        obtain ⟨f3, v1, v2, v3⟩ := compares_eq (le := 2) (fi := c) (se := i) m0 hk u2 ok2 (by decide) ho (Nat.le_trans l2 l1) (by decide) hc hi st (by have := P3_low hc (Nat.le_of_lt hi) e4.1; omega)
        rw [if_neg (by decide), if_neg (by decide)] at v1
        rw [ite_tf, v1]
        simp only [Option.bind_some]
        rw [nI_add]
        refine ⟨_, rfl, rfl, Keep_tr k1 (KB_Keep v3), KB_MS v3 m3, _, v2, IsMin_add e4 (fun x => ⟨?_, ?_⟩)⟩
        · rintro (h | ⟨d, hd, h1, h2, rfl⟩)
          · exact .inl (.inl h)
          · by_cases hdi : d = i
            · subst hdi; exact .inr rfl
            · exact .inl (.inr ⟨d, by omega, h1, h2, rfl⟩)
        · rintro ((h | ⟨d, hd, h1, h2, rfl⟩) | rfl)
          · exact .inl h
          · exact .inr ⟨d, by omega, h1, h2, rfl⟩
          · exact .inr ⟨i, by omega, hv, hvi, rfl⟩)
    (fun z hz => by
      obtain ⟨z1, z2⟩ := z
      obtain ⟨rfl, e1, e2, e3⟩ := hz
      refine ⟨z2, ?_, e1, e3⟩
      unfold p_X7_rowsOf_L49
      dsimp only
      rw [if_pos (Int32.le_refl _)]) (i := 0) (s := (nI 0, f)) (by omega) ⟨rfl, hf, hx, r, hs, hr⟩
  obtain ⟨h1, r', h2, h3⟩ := hQ
  exact ⟨x, r', hx1, h1, h2, h3⟩
theorem rows49_no {o : Nat} {f : Mem} {c : Int32} : lp (p_X7_rowsOf_L49 (nI o) (nI 1) c) (nI 0, f) = some f := by
  refine lp_r ?_
  unfold p_X7_rowsOf_L49
  dsimp only
  rw [if_neg (by decide), if_neg (by decide)]
/-- rows of one trade -/
theorem rowsOf_1 (hm : MS g 0 A) (hk : okF A) {o : Nat} (ho : o < 5) {f : Mem} {r : Nat} (hf : Keep g f) (hs : STm f r) (hr : IsMin (P1 A o 0) r) : ∃ f' r', p_X7_rowsOf f (nI o) (nI 1) = some f' ∧ Keep g f' ∧ STm f' r' ∧ IsMin (P1 A o 500) r' := by
  obtain ⟨x, hx1, hQ⟩ := lp_ex (b := p_X7_rowsOf_L2 (nI o) (nI 1)) (I := fun i z => z.1 = nI i ∧ Keep g z.2 ∧ ∃ r, STm z.2 r ∧ IsMin (P1 A o i) r) (Q := fun z => Keep g z ∧ ∃ r, STm z r ∧ IsMin (P1 A o 500) r) 500
    (fun i hi z hz => by
      obtain ⟨z1, z2⟩ := z
      obtain ⟨rfl, e1, r, e3, e4⟩ := hz
      dsimp only at e1 e3
      have m0 := MS_Keep hk hm e1
      obtain ⟨g1, t1, t2, t3⟩ := copyOn_eq (b := 300) hk m0 (by decide) (by decide) (.inl (by decide))
      obtain ⟨f2, u1, u2, u3⟩ := buysBy_eq t2 hk (by decide) ho hi
      have k1 : Keep g f2 := Keep_tr e1 (Keep_tr (Fr_Keep t3 (by decide)) (Fr_Keep u3 (by decide)))
      have st := STm_Fr (STm_Fr e3 t3) u3
      unfold p_X7_rowsOf_L2
      dsimp only
      rw [if_neg (nI_ge hi (by decide)), t1]
      simp only [Option.bind_some]
      rw [u1]
      simp only [Option.bind_some, bI_0]
      cases hvi : vC A o i with
      | false =>
        rw [ite_ff, nI_add]
        refine ⟨_, rfl, rfl, k1, r, st, IsMin_same e4 (fun x => ⟨?_, ?_⟩)⟩
        · rintro (h | ⟨d, hd, h2, rfl⟩)
          · exact .inl h
          · by_cases hdi : d = i
            · subst hdi; rw [hvi] at h2; cases h2
            · exact .inr ⟨d, by omega, h2, rfl⟩
        · rintro (h | ⟨d, hd, h2, rfl⟩)
          · exact .inl h
          · exact .inr ⟨d, by omega, h2, rfl⟩
      | true =>
        rw [hvi, if_pos rfl] at u2
        have ok2 := okF_xC hk ho hi hvi
        have m1 := MS_Keep hk hm k1
        have l1 := xC_money (A := A) ho hi (vC_ne hk ho hi hvi)
        obtain ⟨f3, v1, v2, v3⟩ := compares_eq (le := 1) (fi := i) (se := 0) m1 hk u2 ok2 (by decide) ho l1 (by decide) hi (by decide) st (by have := (P1_low (Nat.le_of_lt hi) e4.1).1; omega)
        rw [if_neg (by decide), if_pos (by decide)] at v1
        rw [ite_tf, if_pos trivial, v1]
        simp only [Option.bind_some]
        unfold p_X7_rowsOf_B46
        rw [rows49_no]
        simp only [Option.bind_some]
        rw [nI_add]
        refine ⟨_, rfl, rfl, Keep_tr k1 (KB_Keep v3), _, v2, IsMin_add e4 (fun x => ⟨?_, ?_⟩)⟩
        · rintro (h | ⟨d, hd, h2, rfl⟩)
          · exact .inl (.inl h)
          · by_cases hdi : d = i
            · subst hdi; exact .inr rfl
            · exact .inl (.inr ⟨d, by omega, h2, rfl⟩)
        · rintro ((h | ⟨d, hd, h2, rfl⟩) | rfl)
          · exact .inl h
          · exact .inr ⟨d, by omega, h2, rfl⟩
          · exact .inr ⟨i, by omega, hvi, rfl⟩)
    (fun z hz => by
      obtain ⟨z1, z2⟩ := z
      obtain ⟨rfl, e1, e3⟩ := hz
      refine ⟨z2, ?_, e1, e3⟩
      unfold p_X7_rowsOf_L2
      dsimp only
      rw [if_pos (Int32.le_refl _)]) (i := 0) (s := (nI 0, f)) (by omega) ⟨rfl, hf, r, hs, hr⟩
  obtain ⟨h1, r', h2, h3⟩ := hQ
  refine ⟨x, r', ?_, h1, h2, h3⟩
  unfold p_X7_rowsOf
  rw [hx1]
  rfl
/-- rows of two trades -/
theorem rowsOf_2 (hm : MS g 0 A) (hk : okF A) {o : Nat} (ho : o < 5) {f : Mem} {r : Nat} (hf : Keep g f) (hs : STm f r) (hr : IsMin (P2 A o 0) r) : ∃ f' r', p_X7_rowsOf f (nI o) (nI 2) = some f' ∧ Keep g f' ∧ STm f' r' ∧ IsMin (P2 A o 500) r' := by
  obtain ⟨x, hx1, hQ⟩ := lp_ex (b := p_X7_rowsOf_L2 (nI o) (nI 2)) (I := fun i z => z.1 = nI i ∧ Keep g z.2 ∧ ∃ r, STm z.2 r ∧ IsMin (P2 A o i) r) (Q := fun z => Keep g z ∧ ∃ r, STm z r ∧ IsMin (P2 A o 500) r) 500
    (fun i hi z hz => by
      obtain ⟨z1, z2⟩ := z
      obtain ⟨rfl, e1, r, e3, e4⟩ := hz
      dsimp only at e1 e3
      have m0 := MS_Keep hk hm e1
      obtain ⟨g1, t1, t2, t3⟩ := copyOn_eq (b := 300) hk m0 (by decide) (by decide) (.inl (by decide))
      obtain ⟨f2, u1, u2, u3⟩ := buysBy_eq t2 hk (by decide) ho hi
      have k1 : Keep g f2 := Keep_tr e1 (Keep_tr (Fr_Keep t3 (by decide)) (Fr_Keep u3 (by decide)))
      have st := STm_Fr (STm_Fr e3 t3) u3
      unfold p_X7_rowsOf_L2
      dsimp only
      rw [if_neg (nI_ge hi (by decide)), t1]
      simp only [Option.bind_some]
      rw [u1]
      simp only [Option.bind_some, bI_0]
      cases hvi : vC A o i with
      | false =>
        rw [ite_ff, nI_add]
        refine ⟨_, rfl, rfl, k1, r, st, IsMin_same e4 (fun x => ⟨?_, ?_⟩)⟩
        · rintro (h | ⟨c, d, hc, hd, h1, h2, rfl⟩)
          · exact .inl h
          · by_cases hdi : c = i
            · subst hdi; rw [hvi] at h1; cases h1
            · exact .inr ⟨c, d, by omega, hd, h1, h2, rfl⟩
        · rintro (h | ⟨c, d, hc, hd, h1, h2, rfl⟩)
          · exact .inl h
          · exact .inr ⟨c, d, by omega, hd, h1, h2, rfl⟩
      | true =>
        rw [hvi, if_pos rfl] at u2
        obtain ⟨f3, r', v1, v2, v3, v4⟩ := rows49 hm hk ho hi hvi k1 u2 st (IsMin_same (Q := P3 A o i 0) e4 (fun x => ⟨fun h => by
          rcases h with h | ⟨d, hd, -⟩
          · exact h
          · omega, fun h => .inl h⟩))
        rw [ite_tf, if_neg (by decide)]
        unfold p_X7_rowsOf_B46
        rw [v1]
        simp only [Option.bind_some]
        rw [nI_add]
        refine ⟨_, rfl, rfl, v2, r', v3, IsMin_same v4 (fun x => ⟨?_, ?_⟩)⟩
        · rintro (h | ⟨c, d, hc, hd, h1, h2, rfl⟩)
          · exact .inl (.inl h)
          · by_cases hdi : c = i
            · subst hdi; exact .inr ⟨d, hd, h1, h2, rfl⟩
            · exact .inl (.inr ⟨c, d, by omega, hd, h1, h2, rfl⟩)
        · rintro ((h | ⟨c, d, hc, hd, h1, h2, rfl⟩) | ⟨d, hd, h1, h2, rfl⟩)
          · exact .inl h
          · exact .inr ⟨c, d, by omega, hd, h1, h2, rfl⟩
          · exact .inr ⟨i, d, by omega, hd, h1, h2, rfl⟩)
    (fun z hz => by
      obtain ⟨z1, z2⟩ := z
      obtain ⟨rfl, e1, e3⟩ := hz
      refine ⟨z2, ?_, e1, e3⟩
      unfold p_X7_rowsOf_L2
      dsimp only
      rw [if_pos (Int32.le_refl _)]) (i := 0) (s := (nI 0, f)) (by omega) ⟨rfl, hf, r, hs, hr⟩
  obtain ⟨h1, r', h2, h3⟩ := hQ
  refine ⟨x, r', ?_, h1, h2, h3⟩
  unfold p_X7_rowsOf
  rw [hx1]
  rfl
def PB (A : Fk) (o n x : Nat) : Prop := x = r0 A o ∨ (1 ≤ n ∧ ∃ c, c < 500 ∧ vC A o c = true ∧ x = r1 A o c) ∨ (2 ≤ n ∧ ∃ c d, c < 500 ∧ d < 500 ∧ vC A o c = true ∧ vC (xC A o c) o d = true ∧ x = r2 A o c d)
theorem bestLoop_eq (hm : MS g 0 A) (hk : okF A) {o n : Nat} (ho : o < 5) (hn : n ≤ 2) (y : Int32) {f : Mem} {r : Nat} (hf : Keep g f) (hs : STm f r) (hr : IsMin (P1 A o 0) r) : ∃ f' r', lp (p_X7_best_L66 (nI o) (nI n) y) (nI 1, f) = some f' ∧ Keep g f' ∧ STm f' r' ∧ IsMin (PB A o n) r' := by
  have stop : ∀ i f, n < i → i < 10 → p_X7_best_L66 (nI o) (nI n) y (nI i, f) = some (.inr f) := fun i f h1 h2 => by
    unfold p_X7_best_L66
    dsimp only
    rw [if_pos ((nI_ltI (by omega) (by omega)).mpr h1)]
  have go : ∀ i f f', i ≤ n → p_X7_rowsOf f (nI o) (nI i) = some f' → p_X7_best_L66 (nI o) (nI n) y (nI i, f) = some (.inl (nI (i + 1), f')) := fun i f f' h1 h2 => by
    unfold p_X7_best_L66
    dsimp only
    rw [if_neg (fun z => by have := (nI_ltI (by omega) (by omega)).mp z; omega), h2]
    simp only [Option.bind_some]
    rw [nI_add]
  by_cases h0 : n = 0
  · subst h0
    refine ⟨f, r, lp_r (stop 1 f (by decide) (by decide)), hf, hs, IsMin_same hr (fun x => ⟨?_, ?_⟩)⟩
    · rintro (h | ⟨h, -⟩ | ⟨h, -⟩)
      · exact .inl h
      · omega
      · omega
    · rintro (h | ⟨c, hc, -⟩)
      · exact .inl h
      · omega
  · obtain ⟨f1, q1, u1, u2, u3, u4⟩ := rowsOf_1 hm hk ho hf hs hr
    have g1 := go 1 f f1 (by omega) u1
    by_cases h1 : n = 1
    · subst h1
      refine ⟨f1, q1, by rw [lp_s g1]; exact lp_r (stop 2 f1 (by decide) (by decide)), u2, u3, IsMin_same u4 (fun x => ⟨?_, ?_⟩)⟩
      · rintro (h | ⟨-, h⟩ | ⟨h, -⟩)
        · exact .inl h
        · exact .inr h
        · omega
      · rintro (h | h)
        · exact .inl h
        · exact .inr (.inl ⟨by decide, h⟩)
    · have h2 : n = 2 := by omega
      subst h2
      obtain ⟨f2, q2, v1, v2, v3, v4⟩ := rowsOf_2 hm hk ho u2 u3 (IsMin_same (Q := P2 A o 0) u4 (fun x => ⟨fun h => by
        rcases h with h | ⟨c, d, hc, -⟩
        · exact h
        · omega, fun h => .inl h⟩))
      have g2 := go 2 f1 f2 (by omega) v1
      refine ⟨f2, q2, by rw [lp_s g1, lp_s g2]; exact lp_r (stop 3 f2 (by decide) (by decide)), v2, v3, IsMin_same v4 (fun x => ⟨?_, ?_⟩)⟩
      · rintro (h | ⟨-, h⟩ | ⟨-, h⟩)
        · exact .inl (.inl h)
        · exact .inl (.inr h)
        · exact .inr h
      · rintro ((h | h) | h)
        · exact .inl h
        · exact .inr (.inl ⟨by decide, h⟩)
        · exact .inr (.inr ⟨by decide, h⟩)
end OPSJ

/-! ===== the calls, one by one: kinds, skins, on ===== -/
section OPSA
variable {x0 x1 x2 x3 x4 x5 x6 x7 x8 s0 s1 s2 s3 g : Mem} {A : Fk}
/-- as it was, but for one place of page 0 -/
def KX (p : Nat) (g f : Mem) : Prop := Keep0 g f ∧ ∀ j, j < 60 → j ≠ p → f 1 j = g 1 j
theorem KX_set {p : Nat} {g f : Mem} {v : Int32} (h : KX p g f) (hp : p < 60) : KX p g (mrow 1 (upd (f 1) p v) f) := by
  refine ⟨Keep0_tr h.1 ⟨fun j _ => by rw [mrow_ne (by decide)], fun j h1 _ => by rw [mrow_s, pk_un (by omega)], fun i h1 _ => mrow_ne (by omega)⟩, fun j hj hn => ?_⟩
  rw [mrow_s, pk_un hn]
  exact h.2 j hj hn
theorem KX_back {p : Nat} {g f : Mem} (h : KX p g f) (hp : p < 60) : Keep g (mrow 1 (upd (f 1) p (g 1 p)) f) := by
  refine ⟨(KX_set h hp).1, fun j hj => ?_⟩
  rw [mrow_s]
  by_cases hjp : j = p
  · subst hjp; exact pk_us
  · rw [pk_un hjp]; exact h.2 j hj hjp
theorem KX_MS {p : Nat} {g f : Mem} {v : Int32} {B : Fk} (h : KX p g f) (hB : okF B) (hm : MS (mrow 1 (upd (g 1) p v) g) 0 B) : MS (mrow 1 (upd (f 1) p v) f) 0 B := by
  refine MS_of hB hm (by rw [mrow_ne (by decide), mrow_ne (by decide)]; exact h.1.1 0 (.inl rfl)) (fun j _ hj => ?_)
  rw [mrow_s, mrow_s]
  by_cases hjp : j = p
  · subst hjp; rw [pk_us, pk_us]
  · rw [pk_un hjp, pk_un hjp]; exact h.2 j (by omega) hjp
theorem KX_keep {p : Nat} {g f f2 : Mem} (h : KX p g f) (hf : Keep f f2) : KX p g f2 := ⟨Keep0_tr h.1 hf.1, fun j hj hn => (hf.2 j hj).trans (h.2 j hj hn)⟩
theorem bitsI_S (P : Nat → Bool) (i : Nat) : bitsI P (i + 1) = if P i = true then bitsI P i ||| ((nI 1) <<< ((nI i) &&& 31)) else bitsI P i := rfl
theorem kindsOf_eq {m : Nat} {S : Nat → Nat → Nat} (hS : SM g m S (A 0 0)) (hm : MS g 0 A) (hk : okF A) {k : Nat} (hg : k < A 0 0) : ∃ g', p_X7_kindsOf g (nI k) = some (bitsI (fun v => asS S m (fset A 1 k v) 21) 4, g') ∧ Keep g g' ∧ ∀ v, v < 4 → Sh7 g' k v (fset A 1 k v) 21 := by
  have h3 := hk.1.1
  have ik : inb (nI k) 360 = true := inb_nI (by omega) (by decide)
  obtain ⟨x, hx, hQ⟩ := lp_ex (b := p_X7_kindsOf_L12 (nI k) (g 1 k)) (I := fun i z => z.1 = bitsI (fun v => asS S m (fset A 1 k v) 21) i ∧ z.2.1 = nI i ∧ KX k g z.2.2 ∧ ∀ v, v < i → Sh7 z.2.2 k v (fset A 1 k v) 21) (Q := fun z => z.1 = bitsI (fun v => asS S m (fset A 1 k v) 21) 4 ∧ KX k g z.2 ∧ ∀ v, v < 4 → Sh7 z.2 k v (fset A 1 k v) 21) 4
    (fun i hi z hz => by
      obtain ⟨z1, z2, z3⟩ := z
      obtain ⟨rfl, rfl, e3, e4⟩ := hz
      dsimp only at e3 e4
      have hB : okF (fset A 1 k i) := okF_set hk (by omega) (fun _ => hi) (by omega) (by omega) (by omega) (by omega)
      have b0 : fset A 1 k i 0 0 = A 0 0 := fset_ne (by decide)
      have mg : MS (mrow 1 (upd (g 1) k (nI i)) g) 0 (fset A 1 k i) := by
        have := MS_upd hk.1 hm (i := 1) (j := k) (n := i) (v := nI i) (by unfold dm; omega) (by omega) rfl
        rwa [show 0 + sl 1 k = k by rw [sl_1]; omega] at this
      have mf := KX_MS e3 hB mg
      have ks := KX_set (v := nI i) e3 (show k < 60 by omega)
      obtain ⟨g1, u1, u2, u3, u4⟩ := isAsSeen_eq (by rw [b0]; exact SM_Keep0 hS ks.1) mf hB (k := k) (row := i) (by rw [b0]; exact hg) hi
      refine ⟨(bitsI (fun v => asS S m (fset A 1 k v) 21) (i + 1), nI (i + 1), g1), ?_, rfl, rfl, KX_keep ks u2, fun v hv => ?_⟩
      · unfold p_X7_kindsOf_L12 p_X7_kindsOf_B45
        dsimp only
        rw [if_neg (nI_ge hi (by decide)), gd_t ik, nI_clamp (by omega)]
        unfold bnd
        dsimp only
        rw [u1]
        simp only [Option.bind_some, bI_0]
        rw [bitsI_S]
        cases asS S m (fset A 1 k i) 21 with
        | false => rw [ite_ff, or_0, nI_add, if_neg (by decide)]
        | true => rw [ite_tf, nI_add, if_pos rfl]
      · dsimp only
        by_cases hvi : v = i
        · subst hvi
          exact u3
        · intro w hw o ho
          rw [u4 _ (by omega), mrow_ne (by decide)]
          exact e4 v (by omega) w hw o ho)
    (fun z hz => by
      obtain ⟨z1, z2, z3⟩ := z
      obtain ⟨rfl, rfl, e3, e4⟩ := hz
      refine ⟨(bitsI (fun v => asS S m (fset A 1 k v) 21) 4, z3), ?_, rfl, e3, e4⟩
      unfold p_X7_kindsOf_L12
      dsimp only
      rw [if_pos (Int32.le_refl _)]) (i := 0) (s := (nI 0, nI 0, g)) (by omega) ⟨rfl, rfl, ⟨Keep0_rfl g, fun _ _ _ => rfl⟩, fun v hv => by omega⟩
  obtain ⟨y1, y2⟩ := x
  obtain ⟨e1, e2, e3⟩ := hQ
  dsimp only at e1 e2 e3
  subst e1
  refine ⟨mrow 1 (upd (y2 1) k (g 1 k)) y2, ?_, KX_back e2 (by omega), fun v hv w hw o ho => by rw [mrow_ne (by decide)]; exact e3 v hv w hw o ho⟩
  unfold p_X7_kindsOf
  rw [gd_t ik, nI_clamp (by omega), hx]
  simp only [Option.bind_some]
  rw [gd_t ik]
  rfl
theorem kindsAsSeen_eq {m : Nat} {S : Nat → Nat → Nat} (hS : SC x8 m S (A 0 0)) (h : enc x1 A) (hk : okF A) {k : Nat} (hg : k < A 0 0) (x2 : Mem) : ∃ f', p_X6_kindsAsSeen x0 x1 x2 x8 (nI k) = some (bitsI (fun v => asS S m (fset A 1 k v) 21) 4, f') := by
  have h3 := hk.1.1
  obtain ⟨x, hx, hQ⟩ := lp_ex (b := p_X6_kindsAsSeen_L4 x0 x1 x8 (nI k)) (I := fun i z => z.1 = bitsI (fun v => asS S m (fset A 1 k v) 21) i ∧ z.2.1 = nI i) (Q := fun z => z.1 = bitsI (fun v => asS S m (fset A 1 k v) 21) 4) 4
    (fun i hi z hz => by
      obtain ⟨z1, z2, z3⟩ := z
      obtain ⟨rfl, rfl⟩ := hz
      have hB : okF (fset A 1 k i) := okF_set hk (by omega) (fun _ => hi) (by omega) (by omega) (by omega) (by omega)
      have b0 : fset A 1 k i 0 0 = A 0 0 := fset_ne (by decide)
      obtain ⟨f1, c1, c2⟩ := copyFrom_eq (f := z3) h hk
      obtain ⟨f2, d1⟩ := agreeWith_eq (by rw [b0]; exact hS) (enc_upd (i := 1) (j := k) (v := i) c2 (by decide)) hB
      refine ⟨(bitsI (fun v => asS S m (fset A 1 k v) 21) (i + 1), nI (i + 1), f2), ?_, rfl, rfl⟩
      unfold p_X6_kindsAsSeen_L4
      dsimp only
      rw [if_neg (nI_ge hi (by decide)), c1]
      simp only [Option.bind_some]
      rw [gd_t (inb_nI (by omega) (by decide)), nI_clamp (by omega)]
      unfold bnd
      dsimp only
      rw [d1]
      simp only [Option.bind_some, bI_0]
      rw [bitsI_S]
      cases asS S m (fset A 1 k i) 21 with
      | false => rw [ite_ff, nI_add, if_neg (by decide)]
      | true => rw [ite_tf, nI_add, if_pos rfl])
    (fun z hz => by
      obtain ⟨z1, z2, z3⟩ := z
      obtain ⟨rfl, rfl⟩ := hz
      refine ⟨(bitsI (fun v => asS S m (fset A 1 k v) 21) 4, z3), ?_, rfl⟩
      unfold p_X6_kindsAsSeen_L4
      dsimp only
      rw [if_pos (Int32.le_refl _)]) (i := 0) (s := (nI 0, nI 0, x2)) (by omega) ⟨rfl, rfl⟩
  obtain ⟨y1, y2⟩ := x
  dsimp only at hQ
  subst hQ
  refine ⟨y2, ?_⟩
  unfold p_X6_kindsAsSeen
  rw [hx]
  rfl
theorem op_kinds (R : Rel x0 x1 x3 x4 x5 x6 x8 s0 s1 s2 s3 g) (x2 : Mem) (a : Int32) : ∃ r x2' g', p_X6_kinds x0 x1 x2 x8 a = some (r, x2') ∧ p_X7_kinds g a = some (r, g') ∧ Rel x0 x1 x3 x4 x5 x6 x8 s0 s1 s2 s3 g' := by
  have R0 := R
  obtain ⟨A, h, hk, hm, hR⟩ := R
  obtain ⟨-, -, -, hS, -⟩ := hR
  obtain ⟨m, S, sc, sm⟩ := R_seen_of hS
  unfold p_X6_kinds p_X7_kinds
  rw [hasGoose_eq h, isGoose_eq hm.1]
  simp only [Option.bind_some, bI_0]
  cases hG : hasG (A 0 0) a with
  | false => exact ⟨-1, x2, g, rfl, rfl, R0⟩
  | true =>
    obtain ⟨k, hg, rfl⟩ := hasG_of (geese_lt hk) hG
    obtain ⟨f', q1⟩ := kindsAsSeen_eq (x0 := x0) sc h hk hg x2
    obtain ⟨g', u1, u2, -⟩ := kindsOf_eq sm hm hk hg
    rw [ite_tf, ite_tf, q1, u1]
    exact ⟨_, f', g', rfl, rfl, Rel_Keep R0 u2⟩
theorem op_skins (R : Rel x0 x1 x3 x4 x5 x6 x8 s0 s1 s2 s3 g) (x2 : Mem) (a : Int32) : ∃ r x2' g', p_X6_skins x0 x1 x2 x8 a = some (r, x2') ∧ p_X7_skins g a = some (r, g') ∧ Rel x0 x1 x3 x4 x5 x6 x8 s0 s1 s2 s3 g' := by
  have R0 := R
  obtain ⟨A, h, hk, hm, hR⟩ := R
  obtain ⟨-, -, -, hSS, -⟩ := hR
  obtain ⟨m, S, sc, sm⟩ := R_seen_of hSS
  have h3 := hk.1.1
  unfold p_X6_skins p_X7_skins
  rw [hasGoose_eq h, isGoose_eq hm.1]
  simp only [Option.bind_some, bI_0]
  cases hG : hasG (A 0 0) a with
  | false => exact ⟨-1, x2, g, rfl, rfl, R0⟩
  | true =>
    obtain ⟨k, hg, rfl⟩ := hasG_of (geese_lt hk) hG
    have ik : inb (nI (3 + k)) 360 = true := inb_nI (by omega) (by decide)
    obtain ⟨x, hx, hQ⟩ := lp_ex (b := p_X7_skins_L24 (nI k) (g 1 (3 + k))) (I := fun i z => z.1 = bitsI (fun v => asS S m (fset A 2 k v) 21) i ∧ z.2.1 = nI i ∧ KX (3 + k) g z.2.2) (Q := fun z => z.1 = bitsI (fun v => asS S m (fset A 2 k v) 21) 5 ∧ KX (3 + k) g z.2) 5
      (fun i hi z hz => by
        obtain ⟨z1, z2, z3⟩ := z
        obtain ⟨rfl, rfl, e3⟩ := hz
        dsimp only at e3
        have hB : okF (fset A 2 k i) := okF_set hk (by omega) (by omega) (fun _ => hi) (by omega) (by omega) (by omega)
        have b0 : fset A 2 k i 0 0 = A 0 0 := fset_ne (by decide)
        have mg : MS (mrow 1 (upd (g 1) (3 + k) (nI i)) g) 0 (fset A 2 k i) := by
          have := MS_upd hk.1 hm (i := 2) (j := k) (n := i) (v := nI i) (by unfold dm; omega) (by omega) rfl
          rwa [show 0 + sl 2 k = 3 + k by rw [sl_2]; omega] at this
        have mf := KX_MS e3 hB mg
        have ks := KX_set (v := nI i) e3 (show 3 + k < 60 by omega)
        obtain ⟨g1, u1, u2, u3, u4⟩ := isAsSeen_eq (by rw [b0]; exact SM_Keep0 sm ks.1) mf hB (k := k) (row := 0) (by rw [b0]; exact hg) (by decide)
        refine ⟨(bitsI (fun v => asS S m (fset A 2 k v) 21) (i + 1), nI (i + 1), g1), ?_, rfl, rfl, KX_keep ks u2⟩
        unfold p_X7_skins_L24 p_X7_skins_B58
        dsimp only
        rw [if_neg (nI_ge hi (by decide)), nI_add, gd_t ik, nI_clamp (by omega)]
        unfold bnd
        dsimp only
        rw [u1]
        simp only [Option.bind_some, bI_0]
        rw [bitsI_S]
        cases asS S m (fset A 2 k i) 21 with
        | false => rw [ite_ff, or_0, nI_add, if_neg (by decide)]
        | true => rw [ite_tf, nI_add, if_pos rfl])
      (fun z hz => by
        obtain ⟨z1, z2, z3⟩ := z
        obtain ⟨rfl, rfl, e3⟩ := hz
        refine ⟨(bitsI (fun v => asS S m (fset A 2 k v) 21) 5, z3), ?_, rfl, e3⟩
        unfold p_X7_skins_L24
        dsimp only
        rw [if_pos (Int32.le_refl _)]) (i := 0) (s := (nI 0, nI 0, g)) (by omega) ⟨rfl, rfl, ⟨Keep0_rfl g, fun _ _ _ => rfl⟩⟩
    obtain ⟨y1, y2⟩ := x
    obtain ⟨e1, e2⟩ := hQ
    dsimp only at e1 e2
    subst e1
    obtain ⟨x', hx', hQ'⟩ := lp_ex (b := p_X6_skins_L17 x0 x1 x8 (nI k)) (I := fun i z => z.1 = bitsI (fun v => asS S m (fset A 2 k v) 21) i ∧ z.2.1 = nI i) (Q := fun z => z.1 = bitsI (fun v => asS S m (fset A 2 k v) 21) 5) 5
      (fun i hi z hz => by
        obtain ⟨z1, z2, z3⟩ := z
        obtain ⟨rfl, rfl⟩ := hz
        have hB : okF (fset A 2 k i) := okF_set hk (by omega) (by omega) (fun _ => hi) (by omega) (by omega) (by omega)
        have b0 : fset A 2 k i 0 0 = A 0 0 := fset_ne (by decide)
        obtain ⟨f1, c1, c2⟩ := copyFrom_eq (f := z3) h hk
        obtain ⟨f2, d1⟩ := agreeWith_eq (by rw [b0]; exact sc) (enc_upd (i := 2) (j := k) (v := i) c2 (by decide)) hB
        refine ⟨(bitsI (fun v => asS S m (fset A 2 k v) 21) (i + 1), nI (i + 1), f2), ?_, rfl, rfl⟩
        unfold p_X6_skins_L17
        dsimp only
        rw [if_neg (nI_ge hi (by decide)), c1]
        simp only [Option.bind_some]
        rw [gd_t (inb_nI (by omega) (by decide)), nI_clamp (by omega)]
        unfold bnd
        dsimp only
        rw [d1]
        simp only [Option.bind_some, bI_0]
        rw [bitsI_S]
        cases asS S m (fset A 2 k i) 21 with
        | false => rw [ite_ff, nI_add, if_neg (by decide)]
        | true => rw [ite_tf, nI_add, if_pos rfl])
      (fun z hz => by
        obtain ⟨z1, z2, z3⟩ := z
        obtain ⟨rfl, rfl⟩ := hz
        refine ⟨(bitsI (fun v => asS S m (fset A 2 k v) 21) 5, z3), ?_, rfl⟩
        unfold p_X6_skins_L17
        dsimp only
        rw [if_pos (Int32.le_refl _)]) (i := 0) (s := (nI 0, nI 0, x2)) (by omega) ⟨rfl, rfl⟩
    obtain ⟨w1, w2⟩ := x'
    dsimp only at hQ'
    subst hQ'
    refine ⟨bitsI (fun v => asS S m (fset A 2 k v) 21) 5, w2, mrow 1 (upd (y2 1) (3 + k) (g 1 (3 + k))) y2, ?_, ?_, Rel_Keep R0 (KX_back e2 (by omega))⟩
    · rw [ite_tf, hx']
      rfl
    · rw [ite_tf, nI_add, gd_t ik, nI_clamp (by omega), hx]
      simp only [Option.bind_some]
      rw [gd_t ik]
      rfl
end OPSA

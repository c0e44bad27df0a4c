/-! ===== the calls, one by one: kinds, skins ===== -/
section OPS9
variable {x0 x1 x2 x3 x4 x5 x6 x7 x8 s0 s1 s2 s3 g : Mem} {A : Fk}
theorem lp_ee {σ ρ : Type} {b : σ → Option (σ ⊕ ρ)} (I : Nat → σ → Prop) (Q : ρ → Prop) (N : Nat)
    (hs : ∀ i, i < N → ∀ s, I i s → (∃ s', b s = some (.inl s') ∧ I (i + 1) s') ∨ (∃ x, b s = some (.inr x) ∧ Q x))
    (he : ∀ s, I N s → ∃ x, b s = some (.inr x) ∧ Q x) {s : σ} {i : Nat} (hi : i ≤ N) (h : I i s) : ∃ x, lp b s = some x ∧ Q x := by
  obtain ⟨k, hk⟩ : ∃ k, i + k = N := ⟨N - i, by omega⟩
  induction k generalizing i s with
  | zero =>
    have : i = N := by omega
    subst this
    obtain ⟨x, h1, h3⟩ := he s h
    exact ⟨x, by rw [lp_eq, h1]; rfl, h3⟩
  | succ k ih =>
    rcases hs i (by omega) s h with ⟨s', h1, h3⟩ | ⟨x, h1, h3⟩
    · obtain ⟨x, h4, h6⟩ := ih (i := i + 1) (s := s') (by omega) h3 (by omega)
      exact ⟨x, by rw [lp_eq, h1]; exact h4, h6⟩
    · exact ⟨x, by rw [lp_eq, h1]; rfl, h3⟩
/-- do the first sightings agree with a flock behind k weeks? -/
def agr (S : Nat → Nat → Nat) (B : Fk) (k : Nat) : Nat → Bool
  | 0 => true
  | e + 1 => agr S B k e && (!decide (S e 2 = k) || decide (sh B (S e 0) (S e 1) = S e 3))
theorem agr_S (S : Nat → Nat → Nat) (B : Fk) (k e : Nat) : agr S B k (e + 1) = (agr S B k e && (!decide (S e 2 = k) || decide (sh B (S e 0) (S e 1) = S e 3))) := rfl
theorem agr_no {S : Nat → Nat → Nat} {B : Fk} {k e : Nat} (h : agr S B k e = false) : ∀ d, agr S B k (e + d) = false
  | 0 => h
  | d + 1 => by rw [← Nat.add_assoc, agr_S, agr_no h d, Bool.false_and]
def asS (S : Nat → Nat → Nat) (m : Nat) (A : Fk) : Nat → Bool
  | 0 => true
  | k + 1 => asS S m A k && agr S (weeks true A k).1 k m
theorem asS_S (S : Nat → Nat → Nat) (m : Nat) (A : Fk) (k : Nat) : asS S m A (k + 1) = (asS S m A k && agr S (weeks true A k).1 k m) := rfl
theorem asS_no {S : Nat → Nat → Nat} {m : Nat} {A : Fk} {k : Nat} (h : asS S m A k = false) : ∀ d, asS S m A (k + d) = false
  | 0 => h
  | d + 1 => by rw [← Nat.add_assoc, asS_S, asS_no h d, Bool.false_and]
/-- the sightings, in the class's memory, in the model's -/
def SC (x8 : Mem) (m : Nat) (S : Nat → Nat → Nat) (n : Nat) : Prop := m ≤ 6 ∧ x8 0 0 = nI m ∧ ∀ e, e < m → (S e 0 < n ∧ S e 1 < 5 ∧ S e 2 ≤ 20 ∧ S e 3 ≤ 99) ∧ x8 1 e = nI (S e 0) ∧ x8 2 e = nI (S e 1) ∧ x8 3 e = nI (S e 2) ∧ x8 4 e = nI (S e 3)
def SM (g : Mem) (m : Nat) (S : Nat → Nat → Nat) (n : Nat) : Prop := m ≤ 6 ∧ g 0 21 = nI m ∧ ∀ e, e < m → (S e 0 < n ∧ S e 1 < 5 ∧ S e 2 ≤ 20 ∧ S e 3 ≤ 99) ∧ g 6 (4 * e) = nI (S e 0) ∧ g 6 (4 * e + 1) = nI (S e 1) ∧ g 6 (4 * e + 2) = nI (S e 2) ∧ g 6 (4 * e + 3) = nI (S e 3)
theorem R_seen_of {n : Nat} (h : R_seen x8 g n) : ∃ m S, SC x8 m S n ∧ SM g m S n := by
  obtain ⟨m, S, h1, h2, h3, h4⟩ := h
  exact ⟨m, S, ⟨h1, h2, fun e he => ⟨(h4 e he).1, (h4 e he).2.1⟩⟩, h1, h3, fun e he => ⟨(h4 e he).1, (h4 e he).2.2⟩⟩
theorem SM_Keep0 {m n : Nat} {S : Nat → Nat → Nat} {g g' : Mem} (h : SM g m S n) (hf : Keep0 g g') : SM g' m S n := by
  unfold SM
  rw [hf.1 21 (by decide), hf.2.2 6 (by decide) (by decide)]
  exact h
theorem agreeAt_eq {m : Nat} {S : Nat → Nat → Nat} {B : Fk} {f : Mem} (hS : SC x8 m S (B 0 0)) (h : enc f B) (hk : okF B) {k : Nat} (hk20 : k ≤ 20) : p_X3_agreeAt x8 f (nI k) = some (bI (agr S B k m)) := by
  obtain ⟨hm, e0, hv⟩ := hS
  obtain ⟨x, hx, hQ⟩ := lp_ee (b := p_X3_agreeAt_L2 x8 f (nI k)) (fun i s => s = nI i ∧ agr S B k i = true) (fun x => (x = .inl () ∧ agr S B k m = true) ∨ (x = .inr (nI 0) ∧ agr S B k m = false)) m
    (fun i hi s hs => by
      obtain ⟨rfl, ha⟩ := hs
      obtain ⟨⟨b1, b2, b3, b4⟩, v1, v2, v3, v4⟩ := hv i hi
      have l1 := sh_le hk b1 b2
      have i6 : inb (nI i) 6 = true := inb_nI (by omega) (by decide)
      unfold p_X3_agreeAt_L2
      rw [e0, if_neg (nI_ge hi (by omega)), gd_t i6, nI_clamp (by omega), v3]
      by_cases hc : S i 2 = k
      · rw [if_pos (by rw [hc]), gd_t i6, gd_t i6, v1, v2, held_eq h hk b1 b2]
        simp only [Option.bind_some]
        rw [gd_t i6, v4]
        by_cases hd : sh B (S i 0) (S i 1) = S i 3
        · rw [if_pos (by rw [hd]), nI_add]
          exact .inl ⟨_, rfl, rfl, by rw [agr_S, ha, decide_eq_true hd]; simp⟩
        · rw [if_neg (fun z => hd ((nI_eq (by omega) (by omega)).mp z))]
          have hn : agr S B k (i + 1) = false := by rw [agr_S, decide_eq_false hd, decide_eq_true hc]; simp
          have := agr_no hn (m - (i + 1))
          rw [show i + 1 + (m - (i + 1)) = m by omega] at this
          exact .inr ⟨_, rfl, .inr ⟨rfl, this⟩⟩
      · rw [if_neg (fun z => hc ((nI_eq (by omega) (by omega)).mp z)), nI_add]
        exact .inl ⟨_, rfl, rfl, by rw [agr_S, ha, decide_eq_false hc]; simp⟩)
    (fun s hs => by
      obtain ⟨rfl, ha⟩ := hs
      unfold p_X3_agreeAt_L2
      rw [e0, if_pos (Int32.le_refl _)]
      exact ⟨_, rfl, .inl ⟨rfl, ha⟩⟩) (i := 0) (s := nI 0) (by omega) ⟨rfl, rfl⟩
  unfold p_X3_agreeAt
  rw [hx]
  rcases hQ with ⟨rfl, e⟩ | ⟨rfl, e⟩ <;> rw [e] <;> rfl
theorem agreeWith_eq {m : Nat} {S : Nat → Nat → Nat} {f : Mem} (hS : SC x8 m S (A 0 0)) (h : enc f A) (hk : okF A) : ∃ f', p_X3_agreeWith x8 f = some (bI (asS S m A 21), f') := by
  obtain ⟨x, hx, hQ⟩ := lp_ee (b := p_X3_agreeWith_L2 x8) (fun i s => s.1 = nI i ∧ enc s.2 (weeks true A i).1 ∧ asS S m A i = true) (fun x => (∃ p, x = .inl p ∧ asS S m A 21 = true) ∨ (∃ p, x = .inr (nI 0, p) ∧ asS S m A 21 = false)) 21
    (fun i hi s hs => by
      obtain ⟨p1, p2⟩ := s
      obtain ⟨rfl, z1, z2⟩ := hs
      dsimp only at z1
      have okw := okF_weeks (m := true) hk i
      unfold p_X3_agreeWith_L2
      dsimp only
      rw [if_neg (fun z => by have := (nI_ltI (by decide) (by omega)).mp z; omega), agreeAt_eq (by rw [weeks_00]; exact hS) z1 okw (by omega)]
      simp only [Option.bind_some, bI_0]
      cases ha : agr S (weeks true A i).1 i m with
      | false =>
        have hn : asS S m A (i + 1) = false := by rw [asS_S, ha, Bool.and_false]
        have := asS_no hn (21 - (i + 1))
        rw [show i + 1 + (21 - (i + 1)) = 21 by omega] at this
        rw [ite_ff]
        exact .inr ⟨_, rfl, .inr ⟨p2, rfl, this⟩⟩
      | true =>
        obtain ⟨f', q1, q2⟩ := passWeek_eq z1 okw
        rw [ite_tf, q1]
        simp only [Option.bind_some, nI_add]
        exact .inl ⟨_, rfl, rfl, q2, by rw [asS_S, z2, ha]; rfl⟩)
    (fun s hs => by
      obtain ⟨p1, p2⟩ := s
      obtain ⟨rfl, z1, z2⟩ := hs
      unfold p_X3_agreeWith_L2
      dsimp only
      rw [if_pos (by decide)]
      exact ⟨_, rfl, .inl ⟨_, rfl, z2⟩⟩) (i := 0) (s := (nI 0, f)) (by omega) ⟨rfl, h, rfl⟩
  unfold p_X3_agreeWith
  rw [hx]
  rcases hQ with ⟨p, rfl, e⟩ | ⟨p, rfl, e⟩
  · exact ⟨p, by rw [e]; rfl⟩
  · exact ⟨p, by rw [e]; rfl⟩
/-- the shares of a goose in a week go to the model's row -/
theorem shares_eq {f : Mem} {B : Fk} (hm : MS f 240 B) {k row w : Nat} (hg : k < 3) (hr : row < 4) (hw : w ≤ 20) (y : Int32) : ∃ f', lp (p_X7_isAsSeen_L23 (nI k) (nI row) y (nI w)) (nI 0, f) = some f' ∧ (∀ i, i ≠ 7 → f' i = f i) ∧ (∀ o, o < 5 → f' 7 (105 * row + 5 * w + o) = nI (sh B k o)) ∧ ∀ j, j < 105 * row + 5 * w ∨ 105 * row + 5 * w + 5 ≤ j → f' 7 j = f 7 j := by
  obtain ⟨x, hx, hQ⟩ := lp_ex (b := p_X7_isAsSeen_L23 (nI k) (nI row) y (nI w)) (I := fun i z => z.1 = nI i ∧ (∀ i, i ≠ 7 → z.2 i = f i) ∧ (∀ o, o < i → z.2 7 (105 * row + 5 * w + o) = nI (sh B k o)) ∧ ∀ j, j < 105 * row + 5 * w ∨ 105 * row + 5 * w + 5 ≤ j → z.2 7 j = f 7 j) (Q := fun z => (∀ i, i ≠ 7 → z i = f i) ∧ (∀ o, o < 5 → z 7 (105 * row + 5 * w + o) = nI (sh B k o)) ∧ ∀ j, j < 105 * row + 5 * w ∨ 105 * row + 5 * w + 5 ≤ j → z 7 j = f 7 j) 5
    (fun i hi z hz => by
      obtain ⟨z1, z3⟩ := z
      obtain ⟨rfl, e3, e4, e5⟩ := hz
      dsimp only at e3 e4 e5
      refine ⟨(nI (i + 1), mrow 7 (upd (z3 7) (105 * row + 5 * w + i) (nI (sh B k i))) z3), ?_, rfl, fun a ha => by dsimp only; rw [mrow_ne ha, e3 a ha], fun o ho => ?_, fun j hj => ?_⟩
      · unfold p_X7_isAsSeen_L23
        dsimp only
        rw [if_neg (nI_ge hi (by decide)), shareOn_eq (MS_as hm (by rw [e3 0 (by decide)]) (by rw [e3 1 (by decide)])) (by decide) hg hi]
        simp only [Option.bind_some, pk_mul, nI_add]
        rw [gd_t (inb_nI (by omega) (by decide)), nI_clamp (by omega)]
        rfl
      · dsimp only
        rw [mrow_s]
        by_cases hoi : o = i
        · subst hoi
          exact pk_us
        · rw [pk_un (by omega)]
          exact e4 o (by omega)
      · dsimp only
        rw [mrow_s, pk_un (by omega)]
        exact e5 j hj)
    (fun z hz => by
      obtain ⟨z1, z3⟩ := z
      obtain ⟨rfl, e3⟩ := hz
      refine ⟨z3, ?_, e3⟩
      unfold p_X7_isAsSeen_L23
      dsimp only
      rw [if_pos (Int32.le_refl _)]) (i := 0) (s := (nI 0, f)) (by omega) ⟨rfl, fun _ _ => rfl, fun o ho => by omega, fun _ _ => rfl⟩
  exact ⟨x, hx, hQ⟩
theorem seenLoop_eq {f : Mem} {B : Fk} {m : Nat} {S : Nat → Nat → Nat} (hS : SM f m S (B 0 0)) (hm : MS f 240 B) (hk : okF B) {w : Nat} (hw : w ≤ 20) (y1 y2 : Int32) (q : Bool) : lp (p_X7_isAsSeen_L65 f y1 y2 (nI w)) (bI q, nI 0) = some (bI (q && agr S B w m)) := by
  have h3 := hk.1.1
  obtain ⟨hm6, e0, hv⟩ := hS
  have key := lp_for (b := p_X7_isAsSeen_L65 f y1 y2 (nI w)) (x := bI (q && agr S B w m)) (fun i => (bI (q && agr S B w i), nI i)) m (fun i hi => ?_) ?_
  · rw [show agr S B w 0 = true from rfl, Bool.and_true] at key
    exact key
  · obtain ⟨⟨b1, b2, b3, b4⟩, v1, v2, v3, v4⟩ := hv i hi
    have l1 := sh_le hk b1 b2
    unfold p_X7_isAsSeen_L65
    dsimp only
    rw [e0, if_neg (nI_ge hi (by omega)), agr_S, ← Bool.and_assoc]
    simp only [bI_0]
    cases hq : (q && agr S B w i) with
    | false => rw [ite_ff, nI_add]; rfl
    | true =>
      rw [ite_tf, pk_mul, nI_add, gd_t (inb_nI (by omega) (by decide)), nI_clamp (by omega), v3, Bool.true_and]
      by_cases hc : S i 2 = w
      · rw [if_pos (by rw [hc]), gd_t (inb_nI (by omega) (by decide)), nI_add, gd_t (inb_nI (by omega) (by decide)), nI_clamp (by omega), nI_clamp (by omega), v1, v2, shareOn_eq hm (by decide) (by omega) b2]
        simp only [Option.bind_some]
        rw [nI_add, gd_t (inb_nI (by omega) (by decide)), nI_clamp (by omega), v4]
        by_cases hd : sh B (S i 0) (S i 1) = S i 3
        · rw [if_pos (by rw [hd]), nI_add, decide_eq_true hd, Bool.or_true]; rfl
        · rw [if_neg (fun z => hd ((nI_eq (by omega) (by omega)).mp z)), nI_add, decide_eq_false hd, decide_eq_true hc]; rfl
      · rw [if_neg (fun z => hc ((nI_eq (by omega) (by omega)).mp z)), nI_add, decide_eq_false hc]; rfl
  · unfold p_X7_isAsSeen_L65
    dsimp only
    rw [e0, if_pos (Int32.le_refl _)]
/-- the model's row of shares, for one way a goose may be -/
def Sh7 (f : Mem) (k row : Nat) (B : Fk) (n : Nat) : Prop := ∀ w, w < n → ∀ o, o < 5 → f 7 (105 * row + 5 * w + o) = nI (sh (weeks true B w).1 k o)
theorem isAsSeen_eq {m : Nat} {S : Nat → Nat → Nat} (hS : SM g m S (A 0 0)) (hm : MS g 0 A) (hk : okF A) {k row : Nat} (hg : k < A 0 0) (hr : row < 4) : ∃ g', p_X7_isAsSeen g (nI k) (nI row) = some (bI (asS S m A 21), g') ∧ Keep g g' ∧ Sh7 g' k row A 21 ∧ ∀ j, j < 105 * row ∨ 105 * row + 105 ≤ j → g' 7 j = g 7 j := by
  have h3 := hk.1.1
  obtain ⟨g1, t1, t2, t3⟩ := copyOn_eq (b := 240) hk hm (by decide) (by decide) (.inl (by decide))
  obtain ⟨x, hx, hQ⟩ := lp_ex (b := p_X7_isAsSeen_L13 (nI k) (nI row)) (I := fun i z => z.1 = bI (asS S m A i) ∧ z.2.1 = nI i ∧ MS z.2.2 240 (weeks true A i).1 ∧ Keep g z.2.2 ∧ Sh7 z.2.2 k row A i ∧ ∀ j, j < 105 * row ∨ 105 * row + 105 ≤ j → z.2.2 7 j = g 7 j) (Q := fun z => z.1 = bI (asS S m A 21) ∧ Keep g z.2 ∧ Sh7 z.2 k row A 21 ∧ ∀ j, j < 105 * row ∨ 105 * row + 105 ≤ j → z.2 7 j = g 7 j) 21
    (fun i hi z hz => by
      obtain ⟨z1, z2, z3⟩ := z
      obtain ⟨rfl, rfl, e3, e4, e5, e6⟩ := hz
      dsimp only at e3 e4 e5 e6
      have okw := okF_weeks (m := true) hk i
      have w0 : (weeks true A i).1 0 0 = A 0 0 := weeks_00 _ _ _
      obtain ⟨f1, u1, u2, u3, u4⟩ := shares_eq e3 (show k < 3 by omega) hr (show i ≤ 20 by omega) (bI (asS S m A i))
      have m1 : MS f1 240 (weeks true A i).1 := MS_as e3 (by rw [u2 0 (by decide)]) (by rw [u2 1 (by decide)])
      have k1 : Keep z3 f1 := ⟨⟨fun j _ => by rw [u2 0 (by decide)], fun j _ _ => by rw [u2 1 (by decide)], fun a h1 h7 => u2 a h7⟩, fun j _ => by rw [u2 1 (by decide)]⟩
      have s1 : SM f1 m S ((weeks true A i).1 0 0) := by rw [w0]; exact SM_Keep0 (SM_Keep0 hS e4.1) k1.1
      obtain ⟨f2, v1, v2, v3⟩ := weekOn_eq (m := true) m1 okw (by decide)
      refine ⟨(bI (asS S m A (i + 1)), nI (i + 1), f2), ?_, rfl, rfl, v2, Keep_tr e4 (Keep_tr k1 (Fr_Keep v3 (by decide))), ?_, ?_⟩
      · unfold p_X7_isAsSeen_L13
        dsimp only
        rw [if_neg (fun z => by have := (nI_ltI (by decide) (by omega)).mp z; omega), u1]
        simp only [Option.bind_some]
        rw [seenLoop_eq s1 m1 okw (by omega)]
        simp only [Option.bind_some]
        rw [show nI 1 = bI true from rfl, v1]
        simp only [Option.bind_some]
        rw [show bI true = nI 1 from rfl, nI_add]
        rfl
      · intro w hw o ho
        dsimp only
        rw [v3.1 7 (by decide)]
        by_cases hwi : w = i
        · subst hwi
          exact u3 o ho
        · rw [u4 _ (by omega)]
          exact e5 w (by omega) o ho
      · intro j hj
        dsimp only
        rw [v3.1 7 (by decide), u4 _ (by omega)]
        exact e6 j hj)
    (fun z hz => by
      obtain ⟨z1, z2, z3⟩ := z
      obtain ⟨rfl, rfl, e3, e4, e5, e6⟩ := hz
      refine ⟨(bI (asS S m A 21), z3), ?_, rfl, e4, e5, e6⟩
      unfold p_X7_isAsSeen_L13
      dsimp only
      rw [if_pos (by decide)]) (i := 0) (s := (nI 1, nI 0, g1)) (by omega) ⟨rfl, rfl, t2, Fr_Keep t3 (by decide), fun w hw => by omega, fun j _ => by dsimp only; rw [t3.1 7 (by decide)]⟩
  obtain ⟨y1, y2⟩ := x
  obtain ⟨e1, e2, e3, e4⟩ := hQ
  dsimp only at e1 e2 e3 e4
  subst e1
  refine ⟨y2, ?_, e2, e3, e4⟩
  unfold p_X7_isAsSeen
  rw [t1]
  simp only [Option.bind_some]
  rw [hx]
  simp only [Option.bind_some]
  rw [gd_t (zb_bI _)]
end OPS9

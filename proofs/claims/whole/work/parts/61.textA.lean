/-! ===== the text: tokens ===== -/
theorem ite_Ft {α : Type} {d : Decidable (false = true)} (a b : α) : @ite α (false = true) d a b = b := if_neg (fun z => Bool.noConfusion z)
theorem ite_Tt {α : Type} {d : Decidable (true = true)} (a b : α) : @ite α (true = true) d a b = a := if_pos rfl
section TXA
/-- on while it is so -/
def runT (P : Nat → Bool) (t : Nat → Nat) (n : Nat) : Nat → Nat → Nat
  | 0, p => p
  | k + 1, p => if p < n ∧ P (t p) = true then runT P t n k (p + 1) else p
def rn (P : Nat → Bool) (t : Nat → Nat) (n p : Nat) : Nat := runT P t n (n - p) p
variable {P : Nat → Bool} {t : Nat → Nat} {n : Nat}
theorem rn_step {p : Nat} (h : p < n) (hP : P (t p) = true) : rn P t n p = rn P t n (p + 1) := by
  unfold rn
  rw [show n - p = (n - (p + 1)) + 1 by omega]
  show (if p < n ∧ P (t p) = true then runT P t n (n - (p + 1)) (p + 1) else p) = _
  rw [if_pos ⟨h, hP⟩]
theorem rn_stop {p : Nat} (h : ¬ (p < n ∧ P (t p) = true)) : rn P t n p = p := by
  unfold rn
  cases hk : n - p with
  | zero => rfl
  | succ k =>
    show (if p < n ∧ P (t p) = true then runT P t n k (p + 1) else p) = p
    rw [if_neg h]
theorem runT_ge : ∀ k p, p ≤ runT P t n k p
  | 0, p => Nat.le_refl p
  | k + 1, p => by
    have ih := runT_ge k (p + 1)
    show p ≤ if p < n ∧ P (t p) = true then runT P t n k (p + 1) else p
    split <;> omega
theorem runT_le : ∀ k p, p ≤ n → runT P t n k p ≤ n
  | 0, p, h => h
  | k + 1, p, h => by
    show (if p < n ∧ P (t p) = true then runT P t n k (p + 1) else p) ≤ n
    split
    · rename_i hc
      exact runT_le k (p + 1) hc.1
    · exact h
theorem rn_ge (p : Nat) : p ≤ rn P t n p := runT_ge _ _
theorem rn_le {p : Nat} (h : p ≤ n) : rn P t n p ≤ n := runT_le _ _ h
theorem runT_all : ∀ k p j, p ≤ j → j < runT P t n k p → P (t j) = true
  | 0, p, j, h1, h2 => by
    have : runT P t n 0 p = p := rfl
    omega
  | k + 1, p, j, h1, h2 => by
    have e : runT P t n (k + 1) p = if p < n ∧ P (t p) = true then runT P t n k (p + 1) else p := rfl
    rw [e] at h2
    split at h2
    · rename_i hc
      by_cases hj : j = p
      · subst hj; exact hc.2
      · exact runT_all k (p + 1) j (by omega) h2
    · omega
theorem rn_all {p j : Nat} (h1 : p ≤ j) (h2 : j < rn P t n p) : P (t j) = true := runT_all _ _ j h1 h2
theorem runT_end : ∀ k p, n ≤ p + k → ¬ (runT P t n k p < n ∧ P (t (runT P t n k p)) = true)
  | 0, p, h => by
    show ¬ (p < n ∧ _)
    omega
  | k + 1, p, h => by
    have e : runT P t n (k + 1) p = if p < n ∧ P (t p) = true then runT P t n k (p + 1) else p := rfl
    rw [e]
    split
    · exact runT_end k (p + 1) (by omega)
    · rename_i hc
      exact hc
theorem rn_end (p : Nat) : ¬ (rn P t n p < n ∧ P (t (rn P t n p)) = true) := runT_end _ _ (by omega)
def isB (c : Nat) : Bool := decide (c = 32)
def isL (c : Nat) : Bool := decide (97 ≤ c ∧ c ≤ 122)
def isD (c : Nat) : Bool := decide (48 ≤ c ∧ c ≤ 57)
/-- a token: its start, its kind (4: none), its end, its value -/
def lS (t : Nat → Nat) (n p : Nat) : Nat := rn isB t n p
def lK (t : Nat → Nat) (n p : Nat) : Nat := if n ≤ lS t n p then 0 else if isL (t (lS t n p)) = true then 1 else if isD (t (lS t n p)) = true then (if rn isD t n (lS t n p) ≤ lS t n p + 2 then 2 else 4) else if t (lS t n p) = 59 then 3 else 4
def lE (t : Nat → Nat) (n p : Nat) : Nat := if n ≤ lS t n p then lS t n p else if isL (t (lS t n p)) = true then rn isL t n (lS t n p) else if isD (t (lS t n p)) = true then rn isD t n (lS t n p) else lS t n p + 1
/-- a number's value, as it wraps -/
def nv (t : Nat → Nat) (s : Nat) : Nat → Int32
  | 0 => nI 0
  | j + 1 => (nI 10 * nv t s j + nI (t (s + j))) - nI 48
def lV (t : Nat → Nat) (n p : Nat) : Nat := if lE t n p = lS t n p + 1 then t (lS t n p) - 48 else 10 * (t (lS t n p) - 48) + (t (lS t n p + 1) - 48)
theorem lS_ge (t : Nat → Nat) (n p : Nat) : p ≤ lS t n p := rn_ge p
theorem lS_le {p : Nat} (h : p ≤ n) : lS t n p ≤ n := rn_le h
theorem lE_le {p : Nat} (h : p ≤ n) : lS t n p ≤ lE t n p ∧ lE t n p ≤ n := by
  have h1 := lS_le (t := t) h
  unfold lE
  split
  · omega
  · split
    · exact ⟨rn_ge _, rn_le h1⟩
    · split
      · exact ⟨rn_ge _, rn_le h1⟩
      · omega
theorem lE_gt {p : Nat} (h : p ≤ n) (hk : lK t n p ≠ 0) : lS t n p < lE t n p := by
  have h1 := lS_le (t := t) h
  unfold lK at hk
  unfold lE
  by_cases c0 : n ≤ lS t n p
  · rw [if_pos c0] at hk; omega
  · rw [if_neg c0]
    by_cases c1 : isL (t (lS t n p)) = true
    · rw [if_pos c1, rn_step (by omega) c1]
      have := rn_ge (P := isL) (t := t) (n := n) (lS t n p + 1)
      omega
    · rw [if_neg c1]
      by_cases c2 : isD (t (lS t n p)) = true
      · rw [if_pos c2, rn_step (by omega) c2]
        have := rn_ge (P := isD) (t := t) (n := n) (lS t n p + 1)
        omega
      · rw [if_neg c2]; omega
theorem lK_le (t : Nat → Nat) (n p : Nat) : lK t n p ≤ 4 := by
  unfold lK
  repeat' split
  all_goals omega
theorem lV_nv {p : Nat} (h : p ≤ n) (hk : lK t n p = 2) : nv t (lS t n p) (lE t n p - lS t n p) = nI (lV t n p) ∧ lV t n p ≤ 99 := by
  have h1 := lS_le (t := t) h
  have hgt := lE_gt h (by rw [hk]; decide)
  have hE : lE t n p = rn isD t n (lS t n p) ∧ isD (t (lS t n p)) = true ∧ rn isD t n (lS t n p) ≤ lS t n p + 2 := by
    unfold lK at hk
    by_cases c0 : n ≤ lS t n p
    · rw [if_pos c0] at hk; omega
    · rw [if_neg c0] at hk
      by_cases c1 : isL (t (lS t n p)) = true
      · rw [if_pos c1] at hk; omega
      · rw [if_neg c1] at hk
        by_cases c2 : isD (t (lS t n p)) = true
        · rw [if_pos c2] at hk
          refine ⟨by unfold lE; rw [if_neg c0, if_neg c1, if_pos c2], c2, ?_⟩
          split at hk
          · assumption
          · omega
        · rw [if_neg c2] at hk
          split at hk <;> omega
  obtain ⟨e1, e2, e3⟩ := hE
  have d0 : 48 ≤ t (lS t n p) ∧ t (lS t n p) ≤ 57 := of_decide_eq_true e2
  unfold lV
  by_cases c1 : lE t n p = lS t n p + 1
  · rw [if_pos c1, show lE t n p - lS t n p = 0 + 1 by omega]
    refine ⟨?_, by omega⟩
    show (nI 10 * nI 0 + nI (t (lS t n p + 0))) - nI 48 = _
    rw [pk_mul, nI_add, Nat.add_zero, pk_sub (by omega)]
    congr 1
    omega
  · rw [if_neg c1, show lE t n p - lS t n p = 0 + 1 + 1 by omega]
    have d1 : isD (t (lS t n p + 1)) = true := rn_all (P := isD) (t := t) (n := n) (p := lS t n p) (by omega) (by omega)
    have d2 : 48 ≤ t (lS t n p + 1) ∧ t (lS t n p + 1) ≤ 57 := of_decide_eq_true d1
    refine ⟨?_, by omega⟩
    show (nI 10 * ((nI 10 * nI 0 + nI (t (lS t n p + 0))) - nI 48) + nI (t (lS t n p + 1))) - nI 48 = _
    rw [pk_mul, nI_add, Nat.add_zero, pk_sub (by omega), pk_mul, nI_add, pk_sub (by omega)]
    congr 1
    omega
/-- the tape as the class has it -/
def BY (f : Mem) (n : Nat) (t : Nat → Nat) : Prop := n ≤ 160 ∧ f 0 0 = nI n ∧ ∀ k, k < n → t k ≤ 127 ∧ f 1 k = nI (t k)
theorem BY_as {f f' : Mem} (h : BY f n t) (h0 : f' 0 0 = f 0 0) (h1 : f' 1 = f 1) : BY f' n t := ⟨h.1, by rw [h0]; exact h.2.1, fun k hk => by rw [h1]; exact h.2.2 k hk⟩
/-- another memory, but for some numbers -/
def But (J : Nat → Prop) (f f' : Mem) : Prop := (∀ j, ¬ J j → f' 0 j = f 0 j) ∧ ∀ i, i ≠ 0 → f' i = f i
theorem But_rfl (J : Nat → Prop) (f : Mem) : But J f f := ⟨fun _ _ => rfl, fun _ _ => rfl⟩
theorem But_tr {J : Nat → Prop} {a b c : Mem} (h : But J a b) (k : But J b c) : But J a c := ⟨fun j hj => (k.1 j hj).trans (h.1 j hj), fun i hi => (k.2 i hi).trans (h.2 i hi)⟩
theorem But_up {J J' : Nat → Prop} {a b : Mem} (h : But J a b) (hJ : ∀ j, J j → J' j) : But J' a b := ⟨fun j hj => h.1 j (fun z => hj (hJ j z)), h.2⟩
theorem But_set {J : Nat → Prop} {j : Nat} (hj : J j) (v : Int32) (f : Mem) : But J f (mset 0 j v f) := ⟨fun k hk => mset_no (fun z => hk (z ▸ hj)), fun i hi => mset_ne hi⟩
theorem blank_c : ∀ (k p : Nat) (f : Mem), n - p = k → p ≤ n → BY f n t → f 0 1 = nI p → ∃ f', lp p_X4_nextToken_L0 f = some f' ∧ f' 0 1 = nI (rn isB t n p) ∧ But (fun j => j = 1) f f'
  | 0, p, f, hk, hp, hb, h1 => by
    have : p = n := by omega
    subst this
    rw [rn_stop (by omega)]
    refine ⟨f, lp_r ?_, h1, But_rfl _ f⟩
    unfold p_X4_nextToken_L0
    rw [hb.2.1, h1, if_pos (Int32.le_refl _)]
  | k + 1, p, f, hk, hp, hb, h1 => by
    have hlt : p < n := by omega
    have h160 := hb.1
    obtain ⟨c1, c2⟩ := hb.2.2 p hlt
    have e : p_X4_nextToken_L0 f = if t p = 32 then some (.inl (mset 0 1 (nI (p + 1)) f)) else some (.inr f) := by
      unfold p_X4_nextToken_L0
      rw [hb.2.1, h1, if_neg (nI_ge hlt (by omega)), gd_t (inb_nI (by omega) (by decide)), nI_clamp (by omega), c2, nI_add]
      by_cases hc : t p = 32
      · rw [if_pos (by rw [hc]), if_pos hc]
      · rw [if_neg (fun z => hc ((nI_eq (by omega) (by decide)).mp z)), if_neg hc]
    by_cases hc : t p = 32
    · rw [if_pos hc] at e
      have hBc : isB (t p) = true := decide_eq_true hc
      obtain ⟨f', q1, q2, q3⟩ := blank_c k (p + 1) (mset 0 1 (nI (p + 1)) f) (by omega) hlt (BY_as hb (mset_no (by decide)) (mset_ne (by decide))) mset_s
      exact ⟨f', by rw [lp_s e]; exact q1, by rw [rn_step hlt hBc]; exact q2, But_tr (But_set (J := fun j => j = 1) rfl _ f) q3⟩
    · rw [if_neg hc] at e
      rw [rn_stop (fun z => hc (of_decide_eq_true z.2))]
      exact ⟨f, lp_r e, h1, But_rfl _ f⟩
theorem isLetter_eq {c : Nat} (hc : c ≤ 127) : p_X4_isLetter (nI c) = some (bI (isL c)) := by
  unfold p_X4_isLetter isL
  by_cases h1 : 97 ≤ c
  · rw [if_neg (fun z => by have := (nI_ltI (by omega) (by omega)).mp z; omega)]
    by_cases h2 : c ≤ 122
    · rw [if_neg (fun z => by have := (nI_ltI (by omega) (by omega)).mp z; omega), decide_eq_true ⟨h1, h2⟩]; rfl
    · rw [if_pos ((nI_ltI (by omega) (by omega)).mpr (by omega)), decide_eq_false (by omega)]; rfl
  · rw [if_pos ((nI_ltI (by omega) (by omega)).mpr (by omega)), decide_eq_false (by omega)]; rfl
theorem isFigure_eq {c : Nat} (hc : c ≤ 127) : p_X4_isFigure (nI c) = some (bI (isD c)) := by
  unfold p_X4_isFigure isD
  by_cases h1 : 48 ≤ c
  · rw [if_neg (fun z => by have := (nI_ltI (by omega) (by omega)).mp z; omega)]
    by_cases h2 : c ≤ 57
    · rw [if_neg (fun z => by have := (nI_ltI (by omega) (by omega)).mp z; omega), decide_eq_true ⟨h1, h2⟩]; rfl
    · rw [if_pos ((nI_ltI (by omega) (by omega)).mpr (by omega)), decide_eq_false (by omega)]; rfl
  · rw [if_pos ((nI_ltI (by omega) (by omega)).mpr (by omega)), decide_eq_false (by omega)]; rfl
theorem name_c : ∀ (k p : Nat) (f : Mem), n - p = k → p ≤ n → BY f n t → f 0 1 = nI p → ∃ f', lp p_X4_takeName_L5 f = some f' ∧ f' 0 1 = nI (rn isL t n p) ∧ But (fun j => j = 1) f f'
  | 0, p, f, hk, hp, hb, h1 => by
    have : p = n := by omega
    subst this
    rw [rn_stop (by omega)]
    refine ⟨f, lp_r ?_, h1, But_rfl _ f⟩
    unfold p_X4_takeName_L5
    rw [hb.2.1, h1, if_pos (Int32.le_refl _)]
  | k + 1, p, f, hk, hp, hb, h1 => by
    have hlt : p < n := by omega
    have h160 := hb.1
    obtain ⟨c1, c2⟩ := hb.2.2 p hlt
    have e : p_X4_takeName_L5 f = if isL (t p) = false then some (.inr f) else some (.inl (mset 0 1 (nI (p + 1)) f)) := by
      unfold p_X4_takeName_L5
      rw [hb.2.1, h1, if_neg (nI_ge hlt (by omega)), gd_t (inb_nI (by omega) (by decide)), nI_clamp (by omega), c2, nI_add, isLetter_eq c1]
      simp only [Option.bind_some, bI_0]
    cases hc : isL (t p) with
    | true =>
      rw [hc, ite_tf] at e
      obtain ⟨f', q1, q2, q3⟩ := name_c k (p + 1) (mset 0 1 (nI (p + 1)) f) (by omega) hlt (BY_as hb (mset_no (by decide)) (mset_ne (by decide))) mset_s
      exact ⟨f', by rw [lp_s e]; exact q1, by rw [rn_step hlt hc]; exact q2, But_tr (But_set (J := fun j => j = 1) rfl _ f) q3⟩
    | false =>
      rw [hc, ite_ff] at e
      rw [rn_stop (fun z => by rw [hc] at z; cases z.2)]
      exact ⟨f, lp_r e, h1, But_rfl _ f⟩
theorem num_c {s : Nat} : ∀ (k p : Nat) (f : Mem), n - p = k → s ≤ p → p ≤ n → BY f n t → f 0 1 = nI p → f 0 4 = nv t s (p - s) → ∃ f', lp p_X4_takeNumber_L5 f = some f' ∧ f' 0 1 = nI (rn isD t n p) ∧ f' 0 4 = nv t s (rn isD t n p - s) ∧ But (fun j => j = 1 ∨ j = 4) f f'
  | 0, p, f, hk, hs, hp, hb, h1, h4 => by
    have : p = n := by omega
    subst this
    rw [rn_stop (by omega)]
    refine ⟨f, lp_r ?_, h1, h4, But_rfl _ f⟩
    unfold p_X4_takeNumber_L5
    rw [hb.2.1, h1, if_pos (Int32.le_refl _)]
  | k + 1, p, f, hk, hs, hp, hb, h1, h4 => by
    have hlt : p < n := by omega
    have h160 := hb.1
    obtain ⟨c1, c2⟩ := hb.2.2 p hlt
    have i1 : inb (nI p) 160 = true := inb_nI (by omega) (by decide)
    have e : p_X4_takeNumber_L5 f = if isD (t p) = false then some (.inr f) else some (.inl (mset 0 1 (nI (p + 1)) (mset 0 4 (nv t s (p + 1 - s)) f))) := by
      unfold p_X4_takeNumber_L5
      rw [hb.2.1, h1, if_neg (nI_ge hlt (by omega)), gd_t i1, nI_clamp (by omega), c2, nI_add, isFigure_eq c1]
      simp only [Option.bind_some, bI_0]
      rw [gd_t i1, h4, show p + 1 - s = (p - s) + 1 by omega]
      show _ = if isD (t p) = false then some (Sum.inr f) else some (Sum.inl (mset 0 1 (nI (p + 1)) (mset 0 4 ((nI 10 * nv t s (p - s) + nI (t (s + (p - s)))) - nI 48) f)))
      rw [show s + (p - s) = p by omega]
    cases hc : isD (t p) with
    | true =>
      rw [hc, ite_tf] at e
      obtain ⟨f', q1, q2, q3, q4⟩ := num_c (s := s) k (p + 1) (mset 0 1 (nI (p + 1)) (mset 0 4 (nv t s (p + 1 - s)) f)) (by omega) (by omega) hlt (BY_as hb (by rw [mset_no (by decide), mset_no (by decide)]) (by rw [mset_ne (by decide), mset_ne (by decide)])) mset_s (by rw [mset_no (by decide), mset_s])
      exact ⟨f', by rw [lp_s e]; exact q1, by rw [rn_step hlt hc]; exact q2, by rw [rn_step hlt hc]; exact q3, But_tr (But_tr (But_set (.inr rfl) _ f) (But_set (.inl rfl) _ _)) q4⟩
    | false =>
      rw [hc, ite_ff] at e
      rw [rn_stop (fun z => by rw [hc] at z; cases z.2)]
      exact ⟨f, lp_r e, h1, h4, But_rfl _ f⟩
/-- the class takes a token -/
theorem nextToken_eq {f : Mem} {p : Nat} (hb : BY f n t) (hp : p ≤ n) (h1 : f 0 1 = nI p) : ∃ f', p_X4_nextToken f = some f' ∧ BY f' n t ∧ f' 0 1 = nI (lE t n p) ∧ f' 0 2 = nI (lS t n p) ∧ f' 0 3 = nI (lK t n p) ∧ (lK t n p = 2 → f' 0 4 = nI (lV t n p)) := by
  have h160 := hb.1
  obtain ⟨f1, q1, q2, q3⟩ := blank_c (n - p) p f rfl hp hb h1
  have hb1 : BY f1 n t := BY_as hb (q3.1 0 (by omega)) (q3.2 1 (by decide))
  have hS := lS_le (t := t) hp
  have q2' : f1 0 1 = nI (lS t n p) := q2
  have lv := fun hk => lV_nv (t := t) hp hk
  unfold p_X4_nextToken
  rw [q1]
  simp only [Option.bind_some]
  unfold p_X4_nextToken_B38
  rw [q2', hb1.2.1]
  unfold lK lE at lv ⊢
  generalize hs : lS t n p = s at *
  by_cases c0 : n ≤ s
  · have hsn : s = n := by omega
    rw [if_neg (fun z => by have := (nI_ltI (by omega) (by omega)).mp z; omega), if_pos c0, if_pos c0]
    refine ⟨_, rfl, BY_as hb1 (by rw [mset_no (by decide), mset_no (by decide)]) (by rw [mset_ne (by decide), mset_ne (by decide)]), by rw [mset_no (by decide), mset_no (by decide)]; exact q2', by rw [mset_no (by decide), mset_s], mset_s, fun z => by cases z⟩
  · obtain ⟨b1, b2⟩ := hb1.2.2 s (by omega)
    have is : inb (nI s) 160 = true := inb_nI (by omega) (by decide)
    have hb2 : BY (mset 0 2 (nI s) f1) n t := BY_as hb1 (mset_no (by decide)) (mset_ne (by decide))
    rw [if_pos ((nI_ltI (by omega) (by omega)).mpr (by omega)), if_neg c0, if_neg c0, gd_t is, nI_clamp (by omega), b2, isLetter_eq b1]
    simp only [Option.bind_some, bI_0]
    cases hL : isL (t s) with
    | true =>
      rw [ite_tf, ite_Tt, ite_Tt]
      unfold p_X4_takeName
      obtain ⟨f2, u1, u2, u3⟩ := name_c (n - s) s (mset 0 3 (nI 1) (mset 0 2 (nI s) f1)) rfl hS (BY_as hb2 (mset_no (by decide)) (mset_ne (by decide))) (by rw [mset_no (by decide), mset_no (by decide)]; exact q2')
      rw [u1]
      refine ⟨f2, rfl, BY_as hb2 (by rw [u3.1 0 (by omega), mset_no (by decide)]) (by rw [u3.2 1 (by decide), mset_ne (by decide)]), u2, by rw [u3.1 2 (by omega), mset_no (by decide), mset_s], by rw [u3.1 3 (by omega), mset_s], fun z => by cases z⟩
    | false =>
      rw [ite_ff, ite_Ft, ite_Ft, gd_t is, isFigure_eq b1]
      simp only [Option.bind_some, bI_0]
      cases hD : isD (t s) with
      | true =>
        rw [ite_tf, ite_Tt, ite_Tt]
        unfold p_X4_takeNumber p_X4_takeNumber_B68 p_X4_takeNumber_B87
        obtain ⟨f2, u1, u2, u3, u4⟩ := num_c (s := s) (n - s) s (mset 0 4 (nI 0) (mset 0 2 (nI s) f1)) rfl (Nat.le_refl s) hS (BY_as hb2 (mset_no (by decide)) (mset_ne (by decide))) (by rw [mset_no (by decide), mset_no (by decide)]; exact q2') (by rw [mset_s, Nat.sub_self]; rfl)
        rw [u1]
        simp only [Option.bind_some]
        have w2 : f2 0 2 = nI s := by rw [u4.1 2 (by omega), mset_no (by decide), mset_s]
        have g1 := rn_ge (P := isD) (t := t) (n := n) s
        have g2 := rn_le (P := isD) (t := t) hS
        have hb3 : BY f2 n t := BY_as hb2 (by rw [u4.1 0 (by omega), mset_no (by decide)]) (by rw [u4.2 1 (by decide), mset_ne (by decide)])
        rw [u2, w2, pk_sub g1]
        by_cases h2 : rn isD t n s ≤ s + 2
        · rw [if_neg (fun z => by have := (nI_ltI (by omega) (by omega)).mp z; omega), if_pos h2]
          refine ⟨_, rfl, BY_as hb3 (mset_no (by decide)) (mset_ne (by decide)), by rw [mset_no (by decide)]; exact u2, by rw [mset_no (by decide)]; exact w2, mset_s, fun _ => ?_⟩
          rw [mset_no (by decide), u3]
          rw [if_neg c0, hL, ite_Ft, hD, ite_Tt, if_pos h2, if_neg c0, ite_Ft, ite_Tt] at lv
          exact (lv rfl).1
        · rw [if_pos ((nI_ltI (by omega) (by omega)).mpr (by omega)), if_neg h2]
          exact ⟨_, rfl, BY_as hb3 (mset_no (by decide)) (mset_ne (by decide)), by rw [mset_no (by decide)]; exact u2, by rw [mset_no (by decide)]; exact w2, mset_s, fun z => by cases z⟩
      | false =>
        rw [ite_ff, ite_Ft, ite_Ft, gd_t is]
        unfold p_X4_nextToken_B129
        by_cases h59 : t s = 59
        · rw [if_pos (by rw [h59]), if_pos h59, mset_no (by decide), q2', nI_add]
          exact ⟨_, rfl, BY_as hb2 (by rw [mset_no (by decide), mset_no (by decide)]) (by rw [mset_ne (by decide), mset_ne (by decide)]), mset_s, by rw [mset_no (by decide), mset_no (by decide), mset_s], by rw [mset_no (by decide), mset_s], fun z => by cases z⟩
        · rw [if_neg (fun z => h59 ((nI_eq (by omega) (by decide)).mp z)), if_neg h59, mset_no (by decide), q2', nI_add]
          exact ⟨_, rfl, BY_as hb2 (by rw [mset_no (by decide), mset_no (by decide)]) (by rw [mset_ne (by decide), mset_ne (by decide)]), mset_s, by rw [mset_no (by decide), mset_no (by decide), mset_s], by rw [mset_no (by decide), mset_s], fun z => by cases z⟩
end TXA

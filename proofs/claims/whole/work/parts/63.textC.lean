/-! ===== the text: names ===== -/
section TXC
variable {t : Nat → Nat} {n : Nat}
def lenN (w : Nat) : Nat := lenS.getD w 0
def bytN : List (List Nat) := [[112, 108, 97, 105, 110], [109, 111, 117, 108, 116, 101, 114], [115, 119, 97, 110], [100, 114, 97, 107, 101], [115, 104, 97, 114, 101], [109, 111, 110, 101, 121], [116, 114, 97, 100, 101]]
def chN (w k : Nat) : Nat := (bytN.getD w []).getD k 0
def cutN (w : Nat) : Nat := [0, 5, 12, 16, 21, 26, 31, 36].getD w 0
theorem ch_dec : ∀ w, w < 7 → ∀ k, k < lenN w → (bytS.getD w []).getD k 0 &&& 255 = nI (chN w k) ∧ chN w k < 128 ∧ i_X7 5 (cutN w + k) = nI (chN w k) ∧ cutN w + k < 36 := by decide +kernel
theorem cut_dec : ∀ w, w < 8 → i_X7 4 w = nI (cutN w) := by decide +kernel
theorem len_dec : ∀ w, w < 7 → cutN w + lenN w = cutN (w + 1) ∧ lenN w < 8 := by decide
def allC (t : Nat → Nat) (s w : Nat) : Nat → Bool
  | 0 => true
  | k + 1 => allC t s w k && decide (t (s + k) = chN w k)
theorem allC_S (t : Nat → Nat) (s w k : Nat) : allC t s w (k + 1) = (allC t s w k && decide (t (s + k) = chN w k)) := rfl
theorem allC_no {s w k : Nat} (h : allC t s w k = false) : ∀ d, allC t s w (k + d) = false
  | 0 => h
  | d + 1 => by rw [← Nat.add_assoc, allC_S, allC_no h d, Bool.false_and]
def mt (t : Nat → Nat) (s e w : Nat) : Bool := decide (e - s = lenN w) && allC t s w (lenN w)
theorem spells_eq {f : Mem} {s e w : Nat} (hb : BY f n t) (h1 : f 0 1 = nI e) (h2 : f 0 2 = nI s) (hse : s ≤ e) (hen : e ≤ n) (hw : w < 7) : p_X4_spells f w = some (bI (mt t s e w)) := by
  have h160 := hb.1
  obtain ⟨l1, l2⟩ := len_dec w hw
  have eL : p_J0_length_8abf5 w = some (nI (lenN w)) := by unfold p_J0_length_8abf5; rw [if_pos hw]; rfl
  unfold p_X4_spells mt
  rw [eL, h1, h2, pk_sub hse]
  simp only [Option.bind_some]
  by_cases hl : e - s = lenN w
  · rw [if_pos (by rw [hl]), decide_eq_true hl, Bool.true_and]
    obtain ⟨x, hx, hQ⟩ := lp_ee (b := p_X4_spells_L20 f w) (fun k z => z = nI k ∧ allC t s w k = true) (fun x => (x = .inl () ∧ allC t s w (lenN w) = true) ∨ (x = .inr (nI 0) ∧ allC t s w (lenN w) = false)) (lenN w)
      (fun k hk z hz => by
        obtain ⟨rfl, ha⟩ := hz
        obtain ⟨d1, d2, -, -⟩ := ch_dec w hw k hk
        obtain ⟨b1, b2⟩ := hb.2.2 (s + k) (by omega)
        have eC : p_J0_charAt_5068e w (nI k) = some (nI (chN w k)) := by
          unfold p_J0_charAt_5068e
          rw [if_pos hw, gd_t (inb_nI (show k < lenS.getD w 0 from hk) (by show lenN w < 2 ^ 31; omega)), nI_clamp (by omega), d1]
        unfold p_X4_spells_L20
        rw [eL, eC, h2]
        simp only [Option.bind_some]
        rw [if_neg (nI_ge hk (by omega)), nI_add, gd_t (inb_nI (by omega) (by decide)), nI_clamp (by omega), b2]
        by_cases hc : t (s + k) = chN w k
        · rw [if_pos (by rw [hc]), nI_add]
          exact .inl ⟨_, rfl, rfl, by rw [allC_S, ha, decide_eq_true hc]; rfl⟩
        · rw [if_neg (fun z => hc ((nI_eq (by omega) (by omega)).mp z).symm)]
          have hn : allC t s w (k + 1) = false := by rw [allC_S, decide_eq_false hc, Bool.and_false]
          have := allC_no hn (lenN w - (k + 1))
          rw [show k + 1 + (lenN w - (k + 1)) = lenN w by omega] at this
          exact .inr ⟨_, rfl, .inr ⟨rfl, this⟩⟩)
      (fun z hz => by
        obtain ⟨rfl, ha⟩ := hz
        unfold p_X4_spells_L20
        rw [eL]
        simp only [Option.bind_some]
        rw [if_pos (Int32.le_refl _)]
        exact ⟨_, rfl, .inl ⟨rfl, ha⟩⟩) (i := 0) (s := nI 0) (by omega) ⟨rfl, rfl⟩
    rw [hx]
    rcases hQ with ⟨rfl, e⟩ | ⟨rfl, e⟩ <;> rw [e] <;> rfl
  · rw [if_neg (fun z => hl ((nI_eq (by omega) (by omega)).mp z).symm), decide_eq_false hl, Bool.false_and]
    rfl
def wdI (w : Nat) : Int32 := if w < 4 then nI w else nI (w + 6)
theorem lineNamed_eq {f : Mem} {s e : Nat} (hb : BY f n t) (h1 : f 0 1 = nI e) (h2 : f 0 2 = nI s) (h3 : f 0 3 = nI 1) (hse : s ≤ e) (hen : e ≤ n) : (∃ w, w < 7 ∧ mt t s e w = true ∧ (∀ j, j < w → mt t s e j = false) ∧ p_X5_lineNamed f = some (wdI w)) ∨ ((∀ j, j < 7 → mt t s e j = false) ∧ p_X5_lineNamed f = some (-4)) := by
  have sp : ∀ w, w < 7 → p_X4_spells f w = some (bI (mt t s e w)) := fun w hw => spells_eq hb h1 h2 hse hen hw
  unfold p_X5_lineNamed
  rw [if_pos h3, sp 0 (by decide), sp 1 (by decide), sp 2 (by decide), sp 3 (by decide), sp 4 (by decide), sp 5 (by decide), sp 6 (by decide)]
  simp only [Option.bind_some, bI_0]
  cases m0 : mt t s e 0 with
  | true => exact .inl ⟨0, by decide, m0, fun j hj => by omega, by rw [ite_tf]; rfl⟩
  | false =>
    rw [ite_ff]
    cases m1 : mt t s e 1 with
    | true => exact .inl ⟨1, by decide, m1, fun j hj => by rw [show j = 0 by omega]; exact m0, by rw [ite_tf]; rfl⟩
    | false =>
      rw [ite_ff]
      cases m2 : mt t s e 2 with
      | true => exact .inl ⟨2, by decide, m2, fun j hj => by rcases (show j = 0 ∨ j = 1 by omega) with rfl | rfl <;> assumption, by rw [ite_tf]; rfl⟩
      | false =>
        rw [ite_ff]
        cases m3 : mt t s e 3 with
        | true => exact .inl ⟨3, by decide, m3, fun j hj => by rcases (show j = 0 ∨ j = 1 ∨ j = 2 by omega) with rfl | rfl | rfl <;> assumption, by rw [ite_tf]; rfl⟩
        | false =>
          rw [ite_ff]
          cases m4 : mt t s e 4 with
          | true => exact .inl ⟨4, by decide, m4, fun j hj => by rcases (show j = 0 ∨ j = 1 ∨ j = 2 ∨ j = 3 by omega) with rfl | rfl | rfl | rfl <;> assumption, by rw [ite_tf]; rfl⟩
          | false =>
            rw [ite_ff]
            cases m5 : mt t s e 5 with
            | true => exact .inl ⟨5, by decide, m5, fun j hj => by rcases (show j = 0 ∨ j = 1 ∨ j = 2 ∨ j = 3 ∨ j = 4 by omega) with rfl | rfl | rfl | rfl | rfl <;> assumption, by rw [ite_tf]; rfl⟩
            | false =>
              rw [ite_ff]
              cases m6 : mt t s e 6 with
              | true => exact .inl ⟨6, by decide, m6, fun j hj => by rcases (show j = 0 ∨ j = 1 ∨ j = 2 ∨ j = 3 ∨ j = 4 ∨ j = 5 by omega) with rfl | rfl | rfl | rfl | rfl | rfl <;> assumption, by rw [ite_tf]; rfl⟩
              | false => exact .inr ⟨fun j hj => by rcases (show j = 0 ∨ j = 1 ∨ j = 2 ∨ j = 3 ∨ j = 4 ∨ j = 5 ∨ j = 6 by omega) with rfl | rfl | rfl | rfl | rfl | rfl | rfl <;> assumption, by rw [ite_ff]⟩
theorem letters_eq {g : Mem} {s e w : Nat} (hb : BM g n t) (hc : R_const g) (h9 : g 0 9 = nI e) (h10 : g 0 10 = nI s) (hse : s ≤ e) (hen : e ≤ n) (hw : w < 7) (hl : e - s = lenN w) : lp (p_X7_nameHere_L51 g (nI w)) (nI 1, nI 0) = some (bI (allC t s w (lenN w))) := by
  have h160 := hb.1
  obtain ⟨l1, l2⟩ := len_dec w hw
  obtain ⟨x, hx, hQ⟩ := lp_ee (b := p_X7_nameHere_L51 g (nI w)) (fun k z => z = (bI (allC t s w k), nI k)) (fun x => x = bI (allC t s w (lenN w))) (lenN w)
    (fun k hk z hz => by
      subst hz
      obtain ⟨d1, d2, d3, d4⟩ := ch_dec w hw k hk
      obtain ⟨b1, b2⟩ := hb.2.2 (s + k) (by omega)
      unfold p_X7_nameHere_L51
      dsimp only
      simp only [bI_0]
      cases ha : allC t s w k with
      | false =>
        rw [ite_ff]
        have := allC_no ha (lenN w - k)
        rw [show k + (lenN w - k) = lenN w by omega] at this
        exact .inr ⟨_, rfl, by rw [this]⟩
      | true =>
        rw [ite_tf, h9, h10, pk_sub hse, hl, if_neg (nI_ge hk (by omega)), nI_add, byteAt_eq hb (by omega), if_pos (show s + k < n by omega)]
        simp only [Option.bind_some]
        rw [gd_t (inb_nI (by omega) (by decide)), nI_clamp (by omega), hc.1 w (by omega), cut_dec w (by omega), nI_add, gd_t (inb_nI d4 (by decide)), nI_clamp (by omega), hc.2 _ d4, d3]
        by_cases hcc : t (s + k) = chN w k
        · rw [if_pos (by rw [hcc]), nI_add]
          exact .inl ⟨_, rfl, by rw [allC_S, ha, decide_eq_true hcc]; rfl⟩
        · rw [if_neg (fun z => hcc ((nI_eq (by omega) (by omega)).mp z)), nI_add]
          exact .inl ⟨_, rfl, by rw [allC_S, decide_eq_false hcc, Bool.and_false]; rfl⟩)
    (fun z hz => by
      subst hz
      unfold p_X7_nameHere_L51
      dsimp only
      simp only [bI_0]
      cases ha : allC t s w (lenN w) with
      | false => exact ⟨_, rfl, rfl⟩
      | true =>
        rw [ite_tf, h9, h10, pk_sub hse, hl, if_pos (Int32.le_refl _)]
        exact ⟨_, rfl, rfl⟩) (i := 0) (s := (nI 1, nI 0)) (by omega) rfl
  rw [hx, hQ]
theorem nameHere_eq {g : Mem} {s e : Nat} (hb : BM g n t) (hc : R_const g) (h9 : g 0 9 = nI e) (h10 : g 0 10 = nI s) (h11 : g 0 11 = nI 1) (hse : s ≤ e) (hen : e ≤ n) : (∃ w, w < 7 ∧ mt t s e w = true ∧ (∀ j, j < w → mt t s e j = false) ∧ p_X7_nameHere g = some (nI w)) ∨ ((∀ j, j < 7 → mt t s e j = false) ∧ p_X7_nameHere g = some (-4)) := by
  have h160 := hb.1
  obtain ⟨x, hx, hQ⟩ := lp_ee (b := p_X7_nameHere_L2 g) (fun w z => z = nI w ∧ ∀ j, j < w → mt t s e j = false) (fun x => (∃ w, w < 7 ∧ mt t s e w = true ∧ (∀ j, j < w → mt t s e j = false) ∧ x = .inr (nI w)) ∨ ((∀ j, j < 7 → mt t s e j = false) ∧ x = .inl ())) 7
    (fun w hw z hz => by
      obtain ⟨rfl, ha⟩ := hz
      obtain ⟨l1, l2⟩ := len_dec w hw
      have no51 : lp (p_X7_nameHere_L51 g (nI w)) (nI 0, nI 0) = some (nI 0) := by
        refine lp_r ?_
        unfold p_X7_nameHere_L51
        dsimp only
        rw [if_pos (show nI 0 = 0 from rfl)]
      unfold p_X7_nameHere_L2 p_X7_nameHere_B48 p_X7_nameHere_B106
      rw [if_neg (nI_ge hw (by decide)), h11, if_pos rfl, nI_add, gd_t (inb_nI (by omega) (by decide)), gd_t (inb_nI (by omega) (by decide)), nI_clamp (by omega), nI_clamp (by omega), hc.1 w (by omega), hc.1 (w + 1) (by omega), cut_dec w (by omega), cut_dec (w + 1) (by omega), h9, h10, pk_sub hse, pk_sub (by omega), show cutN (w + 1) - cutN w = lenN w by omega, no51]
      by_cases hl : e - s = lenN w
      · rw [if_pos (by rw [hl]), letters_eq hb hc h9 h10 hse hen hw hl]
        simp only [Option.bind_some, bI_0]
        have em : mt t s e w = allC t s w (lenN w) := by unfold mt; rw [decide_eq_true hl, Bool.true_and]
        cases hal : allC t s w (lenN w) with
        | false =>
          rw [ite_ff]
          exact .inl ⟨_, rfl, rfl, fun j hj => by
            by_cases hjw : j = w
            · rw [hjw, em, hal]
            · exact ha j (by omega)⟩
        | true =>
          rw [ite_tf]
          exact .inr ⟨_, rfl, .inl ⟨w, hw, by rw [em, hal], ha, rfl⟩⟩
      · rw [if_neg (fun z => hl ((nI_eq (by omega) (by omega)).mp z))]
        simp only [Option.bind_some]
        rw [if_pos (show nI 0 = 0 from rfl)]
        exact .inl ⟨_, rfl, rfl, fun j hj => by
          by_cases hjw : j = w
          · rw [hjw]; unfold mt; rw [decide_eq_false hl, Bool.false_and]
          · exact ha j (by omega)⟩)
    (fun z hz => by
      obtain ⟨rfl, ha⟩ := hz
      unfold p_X7_nameHere_L2
      rw [if_pos (Int32.le_refl _)]
      exact ⟨_, rfl, .inr ⟨ha, rfl⟩⟩) (i := 0) (s := nI 0) (by omega) ⟨rfl, fun j hj => by omega⟩
  unfold p_X7_nameHere
  rw [hx]
  rcases hQ with ⟨w, q1, q2, q3, rfl⟩ | ⟨q1, rfl⟩
  · exact .inl ⟨w, q1, q2, q3, rfl⟩
  · exact .inr ⟨q1, rfl⟩
/-- both name a line alike -/
theorem names_both {f g : Mem} {s e : Nat} (hb : BY f n t) (h1 : f 0 1 = nI e) (h2 : f 0 2 = nI s) (h3 : f 0 3 = nI 1) (hbm : BM g n t) (hc : R_const g) (h9 : g 0 9 = nI e) (h10 : g 0 10 = nI s) (h11 : g 0 11 = nI 1) (hse : s ≤ e) (hen : e ≤ n) : (∃ w, w < 7 ∧ p_X5_lineNamed f = some (wdI w) ∧ p_X7_nameHere g = some (nI w)) ∨ (p_X5_lineNamed f = some (-4) ∧ p_X7_nameHere g = some (-4)) := by
  rcases lineNamed_eq hb h1 h2 h3 hse hen with ⟨w, q1, q2, q3, q4⟩ | ⟨q1, q2⟩ <;> rcases nameHere_eq hbm hc h9 h10 h11 hse hen with ⟨w', r1, r2, r3, r4⟩ | ⟨r1, r2⟩
  · refine .inl ⟨w, q1, q4, ?_⟩
    have : w' = w := by
      rcases Nat.lt_trichotomy w w' with h | h | h
      · rw [r3 w h] at q2; cases q2
      · exact h.symm
      · rw [q3 w' h] at r2; cases r2
    rw [this] at r4
    exact r4
  · rw [r1 w q1] at q2; cases q2
  · rw [q1 w' r1] at r2; cases r2
  · exact .inr ⟨q2, r2⟩
theorem lineNamed_no {f : Mem} (h3 : ¬ f 0 3 = nI 1) : p_X5_lineNamed f = some (-4) := by
  unfold p_X5_lineNamed
  rw [if_neg h3]
theorem nameHere_no {g : Mem} (h11 : ¬ g 0 11 = nI 1) : p_X7_nameHere g = some (-4) := by
  unfold p_X7_nameHere
  have e : p_X7_nameHere_L2 g (nI 0) = some (.inr (.inl ())) := by
    unfold p_X7_nameHere_L2
    rw [if_neg (by decide), if_neg h11]
  rw [lp_r e]
  rfl
end TXC

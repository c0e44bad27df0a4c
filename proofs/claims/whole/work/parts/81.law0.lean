/-! ===== the law: the world, both objects ===== -/
theorem lg_self (x : Int64) : lg_cmp x x = 0 := by
  unfold lg_cmp
  rw [if_neg (fun h : x > x => Int64.lt_irrefl h), if_pos rfl]
/-! worlds in pieces: a call takes some of them, the rest stays; what a world says doesn't hang on the order of its cells -/
theorem flat_perm (F : Nat → va_W) {l1 l2 : List Nat} (h : List.Perm l1 l2) : List.Perm (l1.flatMap F) (l2.flatMap F) := by
  induction h with
  | nil => exact List.Perm.refl _
  | cons x _ ih => rw [List.flatMap_cons, List.flatMap_cons]; exact ih.append_left _
  | swap x y l =>
    simp only [List.flatMap_cons]
    rw [← List.append_assoc, ← List.append_assoc]
    exact List.Perm.append_right _ List.perm_append_comm
  | trans _ _ a b => exact a.trans b
def catw (F : Nat → va_W) : List Nat → va_W
  | [] => []
  | [i] => F i
  | i :: j :: r => F i ++ catw F (j :: r)
theorem catw_flat (F : Nat → va_W) : ∀ l : List Nat, catw F l = l.flatMap F
  | [] => rfl
  | [i] => by rw [List.flatMap_cons, List.flatMap_nil, List.append_nil]; rfl
  | i :: j :: r => by rw [List.flatMap_cons, ← catw_flat F (j :: r)]; rfl
theorem catw_perm {as is rs : List Nat} (F : Nat → va_W) (h : List.Perm as (is ++ rs)) : List.Perm (catw F as) (catw F is ++ catw F rs) := by
  rw [catw_flat, catw_flat, catw_flat, ← List.flatMap_append]
  exact flat_perm F h
section PERMW
variable {D : va_G} {cl : List vw_C} {ws ws' a b : va_W} {H : Heap} {A : Nat → Prop}
theorem va_P_mem : va_P D cl ws H ↔ ∀ q, q ∈ ws → va_at D cl q H := by
  refine ⟨fun h q hq => ?_, fun h k q hk => h q (List.mem_of_getElem? hk)⟩
  obtain ⟨i, hi⟩ := List.getElem?_of_mem hq
  exact h i q hi
theorem va_P_pm (p : List.Perm ws ws') (h : va_P D cl ws H) : va_P D cl ws' H := va_P_mem.mpr (fun q hq => va_P_mem.mp h q (p.mem_iff.mpr hq))
theorem va_P_l (h : va_P D cl (a ++ b) H) : va_P D cl a H := va_P_mem.mpr (fun q hq => va_P_mem.mp h q (List.mem_append_left _ hq))
theorem D_nd : (∀ (i j : Nat) (p q : Nat × va_E), ws[i]? = some p → ws[j]? = some q → p.1 = q.1 → i = j) ↔ (ws.map Prod.fst).Nodup := by
  unfold List.Nodup
  rw [List.pairwise_iff_getElem]
  constructor
  · intro h i j hi hj hij e
    have hi' : i < ws.length := by simpa using hi
    have hj' : j < ws.length := by simpa using hj
    rw [List.getElem_map, List.getElem_map] at e
    exact absurd (h i j ws[i] ws[j] (List.getElem?_eq_getElem hi') (List.getElem?_eq_getElem hj') e) (Nat.ne_of_lt hij)
  · intro h i j p q hp hq e
    obtain ⟨hi, rfl⟩ := List.getElem?_eq_some_iff.mp hp
    obtain ⟨hj, rfl⟩ := List.getElem?_eq_some_iff.mp hq
    rcases Nat.lt_trichotomy i j with hl | hl | hl
    · exact absurd (by rw [List.getElem_map, List.getElem_map]; exact e) (h i j (by simpa using hi) (by simpa using hj) hl)
    · exact hl
    · exact absurd (by rw [List.getElem_map, List.getElem_map]; exact e.symm) (h j i (by simpa using hj) (by simpa using hi) hl)
theorem va_D_in (h : va_D A ws) {q : Nat × va_E} (hq : q ∈ ws) : A q.1 := by
  obtain ⟨i, hi⟩ := List.getElem?_of_mem hq
  exact h.2 i q hi
theorem va_D_pm (p : List.Perm ws ws') (h : va_D A ws) : va_D A ws' := ⟨D_nd.mpr ((p.map Prod.fst).nodup_iff.mp (D_nd.mp h.1)), fun _ _ hk => va_D_in h (p.mem_iff.mpr (List.mem_of_getElem? hk))⟩
theorem va_D_l (h : va_D A (a ++ b)) : va_D A a := ⟨D_nd.mpr (List.Nodup.sublist ((List.sublist_append_left a b).map Prod.fst) (D_nd.mp h.1)), fun _ _ hk => va_D_in h (List.mem_append_left _ (List.mem_of_getElem? hk))⟩
end PERMW
theorem up_pm {G : Gt} {A : Nat → Prop} {Wd Wc W' W2 Wr : va_W} {H H1 : Heap} (p1 : List.Perm Wd (Wc ++ Wr)) (p2 : List.Perm W2 (W' ++ Wr)) (hP : va_P G.1 vwCl Wd H) (hD : va_D A Wd) (hk : ∀ q : Nat, q < H.size → ¬ va_A Wc H.size q → H1[q]? = H[q]?) (hF : ∀ q, va_A Wc H.size q → A q) (hP1 : va_P G.1 vwCl W' H1) (hD1 : va_D (va_A Wc H.size) W') : va_P G.1 vwCl W2 H1 ∧ va_D A W2 := by
  have q1 := va_P_pm p1 hP
  have d1 := va_D_pm p1 hD
  have old : ∀ q, q ∈ Wr → q.1 < H.size ∧ ¬ va_A Wc H.size q.1 := by
    intro q hq
    have hlt : q.1 < H.size := (va_P_mem.mp q1 q (List.mem_append_right Wc hq)).lt
    refine ⟨hlt, fun hz => ?_⟩
    rcases hz with ⟨j, e, hz⟩ | hz
    · obtain ⟨i, hi⟩ := List.getElem?_of_mem hq
      have hj : j < Wc.length := (List.getElem?_eq_some_iff.mp hz).1
      have a1 : (Wc ++ Wr)[j]? = some (q.1, e) := by rw [List.getElem?_append_left hj]; exact hz
      have a2 : (Wc ++ Wr)[Wc.length + i]? = some q := by rw [List.getElem?_append_right (Nat.le_add_right _ _), Nat.add_sub_cancel_left]; exact hi
      have := d1.1 j (Wc.length + i) (q.1, e) q a1 a2 rfl
      omega
    · exact absurd hlt (Nat.not_lt.mpr hz)
  refine ⟨va_P_pm p2.symm (va_P_mem.mpr (fun q hq => (List.mem_append.mp hq).elim (fun h => va_P_mem.mp hP1 q h) (fun h => (va_P_mem.mp q1 q (List.mem_append_right Wc h)).kept (hk q.1 (old q h).1 (old q h).2)))), va_D_pm p2.symm ⟨fun i j x y hx hy hxy => ?_, fun k q hq => ?_⟩⟩
  · by_cases hi : i < W'.length <;> by_cases hj : j < W'.length
    · rw [List.getElem?_append_left hi] at hx
      rw [List.getElem?_append_left hj] at hy
      exact hD1.1 i j x y hx hy hxy
    · rw [List.getElem?_append_left hi] at hx
      rw [List.getElem?_append_right (Nat.le_of_not_lt hj)] at hy
      exact absurd (hxy ▸ hD1.2 i x hx) (old y (List.mem_of_getElem? hy)).2
    · rw [List.getElem?_append_right (Nat.le_of_not_lt hi)] at hx
      rw [List.getElem?_append_left hj] at hy
      exact absurd (hxy.symm ▸ hD1.2 j y hy) (old x (List.mem_of_getElem? hx)).2
    · rw [List.getElem?_append_right (Nat.le_of_not_lt hi)] at hx
      rw [List.getElem?_append_right (Nat.le_of_not_lt hj)] at hy
      have := d1.1 (Wc.length + (i - W'.length)) (Wc.length + (j - W'.length)) x y (by rw [List.getElem?_append_right (Nat.le_add_right _ _), Nat.add_sub_cancel_left]; exact hx) (by rw [List.getElem?_append_right (Nat.le_add_right _ _), Nat.add_sub_cancel_left]; exact hy) hxy
      omega
  · rcases List.mem_append.mp (List.mem_of_getElem? hq) with h | h
    · exact hF _ (va_D_in hD1 h)
    · exact va_D_in d1 (List.mem_append_right Wc h)
section CALLL
variable {p : Program} {l : Launch} {e : Env} {R : Room} {s : State} {m : MethodId} {args : Array Value} {below : List Frame} {meth : Method} {c : Code} {H H0 : Heap} {locs : List Loc} {cells slots : Nat} {Q : State → Prop}
variable {pc : Nat} {ls : Array Slot} {rest st0 : List Value} {a : Array Value} {A : Nat → Prop} {G : Gt} {Wd Wc W' W2 Wr : va_W} {r : Int32} {rl : Int64}
theorem cl_i_pm (p1 : List.Perm Wd (Wc ++ Wr)) (p2 : List.Perm W2 (W' ++ Wr)) (hr : va_Run p l e R s m args below meth c H locs cells slots 0 0 (F0 m pc ls st0) rest (Qi0 G (va_A Wc H.size) r W' a) (va_A Wc H.size)) (hS : va_S A H0 H locs) (hA : ∀ q, H0.size ≤ q → A q) (hP : va_P G.1 vwCl Wd H) (hD : va_D A Wd)
    (kk : ∀ (H1 : Heap) (locs1 : List Loc), va_P G.1 vwCl W2 H1 → va_D A W2 → va_S A H0 H1 locs1 → W p l e R s m args below meth c H1 locs1 cells slots Q (F0 m (pc + 3) ls (.int r :: rest))) : W p l e R s m args below meth c H locs cells slots Q (F0 m pc ls st0) := by
  have hF : ∀ q, va_A Wc H.size q → A q := fr_all (va_D_l (va_D_pm p1 hD)) hS hA
  refine va_calli hr hS (fun q _ h => hF q h) hF (fun r2 u t H1 locs1 ht hvm hw hB hz1 hk1 hS1 => ?_)
  subst hw
  obtain ⟨g1, g2⟩ := up_pm p1 p2 hP hD hk1 hF (ht ▸ hB.1) hB.2
  exact kk H1 locs1 g1 g2 hS1
theorem cl_l_pm (p1 : List.Perm Wd (Wc ++ Wr)) (p2 : List.Perm W2 (W' ++ Wr)) (hr : va_Run p l e R s m args below meth c H locs cells slots 0 0 (F0 m pc ls st0) rest (Ql0 G (va_A Wc H.size) rl W' a) (va_A Wc H.size)) (hS : va_S A H0 H locs) (hA : ∀ q, H0.size ≤ q → A q) (hP : va_P G.1 vwCl Wd H) (hD : va_D A Wd)
    (kk : ∀ (H1 : Heap) (locs1 : List Loc), va_P G.1 vwCl W2 H1 → va_D A W2 → va_S A H0 H1 locs1 → W p l e R s m args below meth c H1 locs1 cells slots Q (F0 m (pc + 3) ls (.long rl :: rest))) : W p l e R s m args below meth c H locs cells slots Q (F0 m pc ls st0) := by
  have hF : ∀ q, va_A Wc H.size q → A q := fr_all (va_D_l (va_D_pm p1 hD)) hS hA
  refine va_calll hr hS (fun q _ h => hF q h) hF (fun r2 u t H1 locs1 ht hvm hw hB hz1 hk1 hS1 => ?_)
  subst hw
  obtain ⟨g1, g2⟩ := up_pm p1 p2 hP hD hk1 hF (ht ▸ hB.1) hB.2
  exact kk H1 locs1 g1 g2 hS1
end CALLL
/-- the pieces of the law's world, and their memories -/
def PC (G : Gt) (ad : Nat → Nat) (ado : Nat → Nat → Nat) (ad7 : Nat → Nat) (X : Nat → Mem) : Nat → va_W
  | 0 => (wX6 G ad ado (X 0))
  | 1 => (wX0 G (ado 1) (X 1))
  | 2 => (wX0 G (ado 2) (X 2))
  | 3 => (wX0 G (ado 3) (X 3))
  | 4 => (wX0 G (ado 4) (X 4))
  | 5 => (wX4 G (ado 5) (X 5))
  | 6 => (wX5 G (ado 6) (ado 7 0) (X 6))
  | 7 => (wX0 G (ado 7) (X 7))
  | 8 => (wX3 G (ado 8) (X 8))
  | 9 => (wX1 G (ado 9) (ado 10 0) (X 9))
  | 10 => (wX0 G (ado 10) (X 10))
  | 11 => (wX2 G (ado 11) (X 11))
  | 12 => (wX2 G (ado 12) (X 12))
  | 13 => (wX2 G (ado 13) (X 13))
  | 14 => (wX2 G (ado 14) (X 14))
  | 15 => (wX7 G ad7 (X 15))
  | _ => []
def M16 (x0 x1 x2 x3 x4 x5 x6 x7 x8 x9 x10 x11 x12 x13 x14 g : Mem) : Nat → Mem
  | 0 => x0
  | 1 => x1
  | 2 => x2
  | 3 => x3
  | 4 => x4
  | 5 => x5
  | 6 => x6
  | 7 => x7
  | 8 => x8
  | 9 => x9
  | 10 => x10
  | 11 => x11
  | 12 => x12
  | 13 => x13
  | 14 => x14
  | 15 => g
  | _ => x0
abbrev WL (G : Gt) (ad : Nat → Nat) (ado : Nat → Nat → Nat) (ad7 : Nat → Nat) (x0 x1 x2 x3 x4 x5 x6 x7 x8 x9 x10 x11 x12 x13 x14 g : Mem) : va_W := catw (PC G ad ado ad7 (M16 x0 x1 x2 x3 x4 x5 x6 x7 x8 x9 x10 x11 x12 x13 x14 g)) [0, 1, 2, 3, 4, 5, 6, 7, 8, 9, 10, 11, 12, 13, 14, 15]
/-- what is to be done behind a call -/
def GoOn (p : Program) (l : Launch) (e : Env) (s : State) (m : MethodId) (args : Array Value) (below : List Frame) (meth : Method) (c : Code) (G : Gt) (ad : Nat → Nat) (ado : Nat → Nat → Nat) (ad7 : Nat → Nat) (ls : Array Slot) (Q : State → Prop) : Prop :=
  ∀ (x0 x1 x2 x3 x4 x5 x6 x7 x8 x9 x10 x11 x12 x13 x14 g : Mem) (H : Heap) (locs : List Loc), Rel x0 x1 x3 x4 x5 x6 x8 x11 x12 x13 x14 g → va_P G.1 vwCl (WL G ad ado ad7 x0 x1 x2 x3 x4 x5 x6 x7 x8 x9 x10 x11 x12 x13 x14 g) H → va_D (fun q : Nat => s.heap.size ≤ q) (WL G ad ado ad7 x0 x1 x2 x3 x4 x5 x6 x7 x8 x9 x10 x11 x12 x13 x14 g) → va_S (fun q : Nat => s.heap.size ≤ q) s.heap H locs → W p l e room_1 s m args below meth c H locs 100 2657 Q (F0 m 1766 ls [])

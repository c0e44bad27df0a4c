/-! ===== the law: the world, both objects ===== -/
theorem lg_self (x : Int64) : lg_cmp x x = 0 := by
  unfold lg_cmp
  rw [if_neg (Int64.lt_irrefl _), if_neg (Int64.lt_irrefl _)]
section CALLL
variable {p : Program} {l : Launch} {e : Env} {R : Room} {s : State} {m : MethodId} {args : Array Value} {below : List Frame} {meth : Method} {c : Code} {H H0 : Heap} {locs : List Loc} {cells slots : Nat} {Q : State → Prop}
variable {pc : Nat} {ls : Array Slot} {rest st0 : List Value} {a : Array Value} {A : Nat → Prop} {G : Gt} {Wd Wc W' W2 Wr : va_W} {rl : Int64}
theorem cl_l_up (isC isR : List Nat) (hC : isC.map (fun i => Wd[i]?) = Wc.map some) (hC2 : isC.map (fun i => W2[i]?) = W'.map some) (hR : isR.map (fun i => Wd[i]?) = Wr.map some) (hR2 : isR.map (fun i => W2[i]?) = Wr.map some) (hcov : (List.range W2.length).all (fun k => isC.contains k || isR.contains k) = true) (hdis : isR.all (fun k => !isC.contains k) = true) (hr : va_Run p l e R s m args below meth c H locs cells slots 0 0 (F0 m pc ls st0) rest (Ql0 G (va_A Wc H.size) rl W' a) (va_A Wc H.size)) (hS : va_S A H0 H locs) (hA : ∀ q, H0.size ≤ q → A q) (hP : va_P G.1 vwCl Wd H) (hD : va_D A Wd)
    (kk : ∀ (H1 : Heap) (locs1 : List Loc), va_P G.1 vwCl W2 H1 → va_D A W2 → va_S A H0 H1 locs1 → W p l e R s m args below meth c H1 locs1 cells slots Q (F0 m (pc + 3) ls (.long rl :: rest))) : W p l e R s m args below meth c H locs cells slots Q (F0 m pc ls st0) := by
  have hF := fr_sub hD hS hA isC hC
  refine va_calll hr hS (fun q _ h => hF q h) hF (fun r2 u t H1 locs1 ht hvm hw hB hz1 hk1 hS1 => ?_)
  subst hw
  obtain ⟨g1, g2⟩ := up_P isC isR hC hC2 hR hR2 hcov hdis hP hD hk1 hF (ht ▸ hB.1) hB.2
  exact kk H1 locs1 g1 g2 hS1
end CALLL
abbrev WL (G : Gt) (ad : Nat → Nat) (ado : Nat → Nat → Nat) (ad7 : Nat → Nat) (x0 x1 x2 x3 x4 x5 x6 x7 x8 x9 x10 x11 x12 x13 x14 g : Mem) : va_W := ((wX6 G ad ado x0) ++ ((wX0 G (ado 1) x1) ++ ((wX0 G (ado 2) x2) ++ ((wX0 G (ado 3) x3) ++ ((wX0 G (ado 4) x4) ++ ((wX4 G (ado 5) x5) ++ ((wX5 G (ado 6) (ado 7 0) x6) ++ ((wX0 G (ado 7) x7) ++ ((wX3 G (ado 8) x8) ++ ((wX1 G (ado 9) (ado 10 0) x9) ++ ((wX0 G (ado 10) x10) ++ ((wX2 G (ado 11) x11) ++ ((wX2 G (ado 12) x12) ++ ((wX2 G (ado 13) x13) ++ ((wX2 G (ado 14) x14) ++ (wX7 G ad7 g))))))))))))))))
/-- what is to be done behind a call -/
def GoOn (p : Program) (l : Launch) (e : Env) (s : State) (m : MethodId) (args : Array Value) (below : List Frame) (meth : Method) (c : Code) (G : Gt) (ad : Nat → Nat) (ado : Nat → Nat → Nat) (ad7 : Nat → Nat) (ls : Array Slot) (Q : State → Prop) : Prop :=
  ∀ (x0 x1 x2 x3 x4 x5 x6 x7 x8 x9 x10 x11 x12 x13 x14 g : Mem) (H : Heap) (locs : List Loc), Rel x0 x1 x3 x4 x5 x6 x8 x11 x12 x13 x14 g → va_P G.1 vwCl (WL G ad ado ad7 x0 x1 x2 x3 x4 x5 x6 x7 x8 x9 x10 x11 x12 x13 x14 g) H → va_D (fun q : Nat => s.heap.size ≤ q) (WL G ad ado ad7 x0 x1 x2 x3 x4 x5 x6 x7 x8 x9 x10 x11 x12 x13 x14 g) → va_S (fun q : Nat => s.heap.size ≤ q) s.heap H locs → W p l e room_1 s m args below meth c H locs 100 2657 Q (F0 m 1766 ls [])

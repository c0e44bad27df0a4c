/-! ===== the law's loop: what each call does to both ===== -/
section LAWC
variable {p : Program} {l : Launch} {e : Env} {s : State} {m : MethodId} {args : Array Value} {below : List Frame} {meth : Method} {c : Code} {G : Gt} {ad ad7 : Nat → Nat} {ado : Nat → Nat → Nat} {sk sv : Nat → Nat} {b L i : Nat} {xs : Nat → Int32} {x0 x1 x2 x3 x4 x5 x6 x7 x8 x9 x10 x11 x12 x13 x14 g : Mem} {H : Heap} {locs : List Loc} {ls : Array Slot} {Q : State → Prop}
set_option maxHeartbeats 8000000 in
set_option maxRecDepth 100000 in
theorem law_purse (hC : CallFix p m c cL_law 4 s args wsL_law RL) (hE : EV G s) (hZ : SV sk sv (fun q : Nat => s.heap.size ≤ q) s s.heap) (hX : va_X b L xs s s.heap) (hbl : b < s.heap.size) (hi : i + 6 ≤ L) (hL : L ≤ 384) (Rr : Rel x0 x1 x3 x4 x5 x6 x8 x11 x12 x13 x14 g) (hP : va_P G.1 vwCl (WL G ad ado ad7 x0 x1 x2 x3 x4 x5 x6 x7 x8 x9 x10 x11 x12 x13 x14 g) H) (hD : va_D (fun q : Nat => s.heap.size ≤ q) (WL G ad ado ad7 x0 x1 x2 x3 x4 x5 x6 x7 x8 x9 x10 x11 x12 x13 x14 g)) (hS : va_S (fun q : Nat => s.heap.size ≤ q) s.heap H locs) (hl : lv_has ls 4 [(0, .ref b), (1, .ref (ad 0)), (2, .ref (ad7 0)), (3, .int (nI i))]) (kk : GoOn p l e s m args below meth c G ad ado ad7 ls Q) : W p l e room_1 s m args below meth c H locs 100 2657 Q (F0 m 498 ls []) := by
  have hA : ∀ q : Nat, s.heap.size ≤ q → (fun q : Nat => s.heap.size ≤ q) q := fun _ h => h
  have hbA : ¬ (fun q : Nat => s.heap.size ≤ q) b := Nat.not_le.mpr hbl
  obtain ⟨hx, hb, hml, hown, hts⟩ := id hC
  have hT : va_K G.1 vwCl (tyL G) s := hE.1
  have hn1 : vp_in (nI i + nI 1) L := by rw [nI_add]; exact vp_in_nI (by omega) (by omega)
  have hn2 : vp_in (nI i + nI 2) L := by rw [nI_add]; exact vp_in_nI (by omega) (by omega)
  obtain ⟨r, x1', g', e1, e2, Rr'⟩ := op_purse Rr (xs (nI i + nI 1).toNatClampNeg) (xs (nI i + nI 2).toNatClampNeg)
  refine lv_aload_n hx hb dL_law_498 rfl (lv_at hl 1 rfl) ?_
  refine lv_aload_n hx hb dL_law_499 rfl (lv_at hl 0 rfl) ?_
  refine lv_iload_n hx hb dL_law_500 rfl (lv_at hl 3 rfl) ?_
  refine lv_iconst (v := (nI 1)) hx hb dL_law_501 (ic_1) ?_
  refine lv_iadd hx hb dL_law_502 ?_
  refine va_sld hx hb hX hbl hbA hS hn1 dL_law_503 ?_
  refine lv_aload_n hx hb dL_law_504 rfl (lv_at hl 0 rfl) ?_
  refine lv_iload_n hx hb dL_law_505 rfl (lv_at hl 3 rfl) ?_
  refine lv_iconst (v := (nI 2)) hx hb dL_law_506 (ic_2) ?_
  refine lv_iadd hx hb dL_law_507 ?_
  refine va_sld hx hb hX hbl hbA hS hn2 dL_law_508 ?_
  have p1 : List.Perm (WL G ad ado ad7 x0 x1 x2 x3 x4 x5 x6 x7 x8 x9 x10 x11 x12 x13 x14 g) (((wX6 G ad ado x0) ++ (wX0 G (ado 1) x1)) ++ ((wX0 G (ado 2) x2) ++ ((wX0 G (ado 3) x3) ++ ((wX0 G (ado 4) x4) ++ ((wX4 G (ado 5) x5) ++ ((wX5 G (ado 6) (ado 7 0) x6) ++ ((wX0 G (ado 7) x7) ++ ((wX3 G (ado 8) x8) ++ ((wX1 G (ado 9) (ado 10 0) x9) ++ ((wX0 G (ado 10) x10) ++ ((wX2 G (ado 11) x11) ++ ((wX2 G (ado 12) x12) ++ ((wX2 G (ado 13) x13) ++ ((wX2 G (ado 14) x14) ++ (wX7 G ad7 g))))))))))))))) := catw_perm (as := [0, 1, 2, 3, 4, 5, 6, 7, 8, 9, 10, 11, 12, 13, 14, 15]) (is := [0, 1]) (rs := [2, 3, 4, 5, 6, 7, 8, 9, 10, 11, 12, 13, 14, 15]) (PC G ad ado ad7 (M16 x0 x1 x2 x3 x4 x5 x6 x7 x8 x9 x10 x11 x12 x13 x14 g)) (by decide)
  have p2 : List.Perm (WL G ad ado ad7 x0 x1' x2 x3 x4 x5 x6 x7 x8 x9 x10 x11 x12 x13 x14 g) (((wX6 G ad ado x0) ++ (wX0 G (ado 1) x1')) ++ ((wX0 G (ado 2) x2) ++ ((wX0 G (ado 3) x3) ++ ((wX0 G (ado 4) x4) ++ ((wX4 G (ado 5) x5) ++ ((wX5 G (ado 6) (ado 7 0) x6) ++ ((wX0 G (ado 7) x7) ++ ((wX3 G (ado 8) x8) ++ ((wX1 G (ado 9) (ado 10 0) x9) ++ ((wX0 G (ado 10) x10) ++ ((wX2 G (ado 11) x11) ++ ((wX2 G (ado 12) x12) ++ ((wX2 G (ado 13) x13) ++ ((wX2 G (ado 14) x14) ++ (wX7 G ad7 g))))))))))))))) := catw_perm (as := [0, 1, 2, 3, 4, 5, 6, 7, 8, 9, 10, 11, 12, 13, 14, 15]) (is := [0, 1]) (rs := [2, 3, 4, 5, 6, 7, 8, 9, 10, 11, 12, 13, 14, 15]) (PC G ad ado ad7 (M16 x0 x1' x2 x3 x4 x5 x6 x7 x8 x9 x10 x11 x12 x13 x14 g)) (by decide)
  have hPc : va_P G.1 vwCl ((wX6 G ad ado x0) ++ (wX0 G (ado 1) x1)) H := va_P_l (va_P_pm p1 hP)
  have hDc : va_D (fun q : Nat => s.heap.size ≤ q) ((wX6 G ad ado x0) ++ (wX0 G (ado 1) x1)) := va_D_l (va_D_pm p1 hD)
  refine cl_i_pm (Wd := (WL G ad ado ad7 x0 x1 x2 x3 x4 x5 x6 x7 x8 x9 x10 x11 x12 x13 x14 g)) (Wc := ((wX6 G ad ado x0) ++ (wX0 G (ado 1) x1))) (W' := ((wX6 G ad ado x0) ++ (wX0 G (ado 1) x1'))) (W2 := (WL G ad ado ad7 x0 x1' x2 x3 x4 x5 x6 x7 x8 x9 x10 x11 x12 x13 x14 g)) (Wr := ((wX0 G (ado 2) x2) ++ ((wX0 G (ado 3) x3) ++ ((wX0 G (ado 4) x4) ++ ((wX4 G (ado 5) x5) ++ ((wX5 G (ado 6) (ado 7 0) x6) ++ ((wX0 G (ado 7) x7) ++ ((wX3 G (ado 8) x8) ++ ((wX1 G (ado 9) (ado 10 0) x9) ++ ((wX0 G (ado 10) x10) ++ ((wX2 G (ado 11) x11) ++ ((wX2 G (ado 12) x12) ++ ((wX2 G (ado 13) x13) ++ ((wX2 G (ado 14) x14) ++ (wX7 G ad7 g))))))))))))))) p1 p2 (va_runV (As := [.int (xs (nI i + nI 1).toNatClampNeg), .int (xs (nI i + nI 2).toNatClampNeg)]) (rest := []) hC (c_X6_purse l G ad ado x0 x1 (xs (nI i + nI 1).toNatClampNeg) (xs (nI i + nI 2).toNatClampNeg) r x1' e1 _) (cwV 2 hts gL_law_X6_purse rfl rfl rfl (by decide +kernel) ⟨Nat.le_of_ble_eq_true rfl, Nat.le_of_ble_eq_true rfl⟩) ⟨Pc0_blind, va_recv hT hPc (q0 := 0) (ci := 6) rfl rfl, fun U hU hW => Pc0_at (Wd := ((wX6 G ad ado x0) ++ (wX0 G (ado 1) x1))) hE hPc hDc hU hW⟩ rfl rfl hl.1 rfl (lv_room (Nat.le_of_ble_eq_true rfl)) dL_law_509 ⟨Nat.le_of_ble_eq_true rfl, Nat.le_of_ble_eq_true rfl⟩) hS hA hP hD (fun H locs hP hD hS => ?_)
  clear p1 p2 hPc hDc
  refine lv_aload_n hx hb dL_law_512 rfl (lv_at hl 2 rfl) ?_
  refine lv_aload_n hx hb dL_law_513 rfl (lv_at hl 0 rfl) ?_
  refine lv_iload_n hx hb dL_law_514 rfl (lv_at hl 3 rfl) ?_
  refine lv_iconst (v := (nI 1)) hx hb dL_law_515 (ic_1) ?_
  refine lv_iadd hx hb dL_law_516 ?_
  refine va_sld hx hb hX hbl hbA hS hn1 dL_law_517 ?_
  refine lv_aload_n hx hb dL_law_518 rfl (lv_at hl 0 rfl) ?_
  refine lv_iload_n hx hb dL_law_519 rfl (lv_at hl 3 rfl) ?_
  refine lv_iconst (v := (nI 2)) hx hb dL_law_520 (ic_2) ?_
  refine lv_iadd hx hb dL_law_521 ?_
  refine va_sld hx hb hX hbl hbA hS hn2 dL_law_522 ?_
  have p1 : List.Perm (WL G ad ado ad7 x0 x1' x2 x3 x4 x5 x6 x7 x8 x9 x10 x11 x12 x13 x14 g) ((wX7 G ad7 g) ++ ((wX6 G ad ado x0) ++ ((wX0 G (ado 1) x1') ++ ((wX0 G (ado 2) x2) ++ ((wX0 G (ado 3) x3) ++ ((wX0 G (ado 4) x4) ++ ((wX4 G (ado 5) x5) ++ ((wX5 G (ado 6) (ado 7 0) x6) ++ ((wX0 G (ado 7) x7) ++ ((wX3 G (ado 8) x8) ++ ((wX1 G (ado 9) (ado 10 0) x9) ++ ((wX0 G (ado 10) x10) ++ ((wX2 G (ado 11) x11) ++ ((wX2 G (ado 12) x12) ++ ((wX2 G (ado 13) x13) ++ (wX2 G (ado 14) x14)))))))))))))))) := catw_perm (as := [0, 1, 2, 3, 4, 5, 6, 7, 8, 9, 10, 11, 12, 13, 14, 15]) (is := [15]) (rs := [0, 1, 2, 3, 4, 5, 6, 7, 8, 9, 10, 11, 12, 13, 14]) (PC G ad ado ad7 (M16 x0 x1' x2 x3 x4 x5 x6 x7 x8 x9 x10 x11 x12 x13 x14 g)) (by decide)
  have p2 : List.Perm (WL G ad ado ad7 x0 x1' x2 x3 x4 x5 x6 x7 x8 x9 x10 x11 x12 x13 x14 g') ((wX7 G ad7 g') ++ ((wX6 G ad ado x0) ++ ((wX0 G (ado 1) x1') ++ ((wX0 G (ado 2) x2) ++ ((wX0 G (ado 3) x3) ++ ((wX0 G (ado 4) x4) ++ ((wX4 G (ado 5) x5) ++ ((wX5 G (ado 6) (ado 7 0) x6) ++ ((wX0 G (ado 7) x7) ++ ((wX3 G (ado 8) x8) ++ ((wX1 G (ado 9) (ado 10 0) x9) ++ ((wX0 G (ado 10) x10) ++ ((wX2 G (ado 11) x11) ++ ((wX2 G (ado 12) x12) ++ ((wX2 G (ado 13) x13) ++ (wX2 G (ado 14) x14)))))))))))))))) := catw_perm (as := [0, 1, 2, 3, 4, 5, 6, 7, 8, 9, 10, 11, 12, 13, 14, 15]) (is := [15]) (rs := [0, 1, 2, 3, 4, 5, 6, 7, 8, 9, 10, 11, 12, 13, 14]) (PC G ad ado ad7 (M16 x0 x1' x2 x3 x4 x5 x6 x7 x8 x9 x10 x11 x12 x13 x14 g')) (by decide)
  have hPc : va_P G.1 vwCl (wX7 G ad7 g) H := va_P_l (va_P_pm p1 hP)
  have hDc : va_D (fun q : Nat => s.heap.size ≤ q) (wX7 G ad7 g) := va_D_l (va_D_pm p1 hD)
  refine cl_i_pm (Wd := (WL G ad ado ad7 x0 x1' x2 x3 x4 x5 x6 x7 x8 x9 x10 x11 x12 x13 x14 g)) (Wc := (wX7 G ad7 g)) (W' := (wX7 G ad7 g')) (W2 := (WL G ad ado ad7 x0 x1' x2 x3 x4 x5 x6 x7 x8 x9 x10 x11 x12 x13 x14 g')) (Wr := ((wX6 G ad ado x0) ++ ((wX0 G (ado 1) x1') ++ ((wX0 G (ado 2) x2) ++ ((wX0 G (ado 3) x3) ++ ((wX0 G (ado 4) x4) ++ ((wX4 G (ado 5) x5) ++ ((wX5 G (ado 6) (ado 7 0) x6) ++ ((wX0 G (ado 7) x7) ++ ((wX3 G (ado 8) x8) ++ ((wX1 G (ado 9) (ado 10 0) x9) ++ ((wX0 G (ado 10) x10) ++ ((wX2 G (ado 11) x11) ++ ((wX2 G (ado 12) x12) ++ ((wX2 G (ado 13) x13) ++ (wX2 G (ado 14) x14)))))))))))))))) p1 p2 (va_runV (As := [.int (xs (nI i + nI 1).toNatClampNeg), .int (xs (nI i + nI 2).toNatClampNeg)]) (rest := [.int r]) hC (c_X7_purse l G ad7 g (xs (nI i + nI 1).toNatClampNeg) (xs (nI i + nI 2).toNatClampNeg) r g' e2 _) (cwV 2 hts gL_law_X7_purse rfl rfl rfl (by decide +kernel) ⟨Nat.le_of_ble_eq_true rfl, Nat.le_of_ble_eq_true rfl⟩) ⟨Pc0_blind, va_recv hT hPc (q0 := 0) (ci := 7) rfl rfl, fun U hU hW => Pc0_at (Wd := (wX7 G ad7 g)) hE hPc hDc hU hW⟩ rfl rfl hl.1 rfl (lv_room (Nat.le_of_ble_eq_true rfl)) dL_law_523 ⟨Nat.le_of_ble_eq_true rfl, Nat.le_of_ble_eq_true rfl⟩) hS hA hP hD (fun H locs hP hD hS => ?_)
  clear p1 p2 hPc hDc
  refine lv_icmp_eq (tgt := 1766) hx hb dL_law_526 (by decide) (fun _ => ?_) (fun h => absurd rfl h)
  exact kk x0 x1' x2 x3 x4 x5 x6 x7 x8 x9 x10 x11 x12 x13 x14 g' H locs Rr' hP hD hS
set_option maxHeartbeats 8000000 in
set_option maxRecDepth 100000 in
theorem law_grant (hC : CallFix p m c cL_law 4 s args wsL_law RL) (hE : EV G s) (hZ : SV sk sv (fun q : Nat => s.heap.size ≤ q) s s.heap) (hX : va_X b L xs s s.heap) (hbl : b < s.heap.size) (hi : i + 6 ≤ L) (hL : L ≤ 384) (Rr : Rel x0 x1 x3 x4 x5 x6 x8 x11 x12 x13 x14 g) (hP : va_P G.1 vwCl (WL G ad ado ad7 x0 x1 x2 x3 x4 x5 x6 x7 x8 x9 x10 x11 x12 x13 x14 g) H) (hD : va_D (fun q : Nat => s.heap.size ≤ q) (WL G ad ado ad7 x0 x1 x2 x3 x4 x5 x6 x7 x8 x9 x10 x11 x12 x13 x14 g)) (hS : va_S (fun q : Nat => s.heap.size ≤ q) s.heap H locs) (hl : lv_has ls 4 [(0, .ref b), (1, .ref (ad 0)), (2, .ref (ad7 0)), (3, .int (nI i))]) (kk : GoOn p l e s m args below meth c G ad ado ad7 ls Q) : W p l e room_1 s m args below meth c H locs 100 2657 Q (F0 m 531 ls []) := by
  have hA : ∀ q : Nat, s.heap.size ≤ q → (fun q : Nat => s.heap.size ≤ q) q := fun _ h => h
  have hbA : ¬ (fun q : Nat => s.heap.size ≤ q) b := Nat.not_le.mpr hbl
  obtain ⟨hx, hb, hml, hown, hts⟩ := id hC
  have hT : va_K G.1 vwCl (tyL G) s := hE.1
  have hn1 : vp_in (nI i + nI 1) L := by rw [nI_add]; exact vp_in_nI (by omega) (by omega)
  have hn2 : vp_in (nI i + nI 2) L := by rw [nI_add]; exact vp_in_nI (by omega) (by omega)
  have hn3 : vp_in (nI i + nI 3) L := by rw [nI_add]; exact vp_in_nI (by omega) (by omega)
  obtain ⟨r, x1', g', e1, e2, Rr'⟩ := op_grant Rr (xs (nI i + nI 1).toNatClampNeg) (xs (nI i + nI 2).toNatClampNeg) (xs (nI i + nI 3).toNatClampNeg)
  refine lv_aload_n hx hb dL_law_531 rfl (lv_at hl 1 rfl) ?_
  refine lv_aload_n hx hb dL_law_532 rfl (lv_at hl 0 rfl) ?_
  refine lv_iload_n hx hb dL_law_533 rfl (lv_at hl 3 rfl) ?_
  refine lv_iconst (v := (nI 1)) hx hb dL_law_534 (ic_1) ?_
  refine lv_iadd hx hb dL_law_535 ?_
  refine va_sld hx hb hX hbl hbA hS hn1 dL_law_536 ?_
  refine lv_aload_n hx hb dL_law_537 rfl (lv_at hl 0 rfl) ?_
  refine lv_iload_n hx hb dL_law_538 rfl (lv_at hl 3 rfl) ?_
  refine lv_iconst (v := (nI 2)) hx hb dL_law_539 (ic_2) ?_
  refine lv_iadd hx hb dL_law_540 ?_
  refine va_sld hx hb hX hbl hbA hS hn2 dL_law_541 ?_
  refine lv_aload_n hx hb dL_law_542 rfl (lv_at hl 0 rfl) ?_
  refine lv_iload_n hx hb dL_law_543 rfl (lv_at hl 3 rfl) ?_
  refine lv_iconst (v := (nI 3)) hx hb dL_law_544 (ic_3) ?_
  refine lv_iadd hx hb dL_law_545 ?_
  refine va_sld hx hb hX hbl hbA hS hn3 dL_law_546 ?_
  have p1 : List.Perm (WL G ad ado ad7 x0 x1 x2 x3 x4 x5 x6 x7 x8 x9 x10 x11 x12 x13 x14 g) (((wX6 G ad ado x0) ++ (wX0 G (ado 1) x1)) ++ ((wX0 G (ado 2) x2) ++ ((wX0 G (ado 3) x3) ++ ((wX0 G (ado 4) x4) ++ ((wX4 G (ado 5) x5) ++ ((wX5 G (ado 6) (ado 7 0) x6) ++ ((wX0 G (ado 7) x7) ++ ((wX3 G (ado 8) x8) ++ ((wX1 G (ado 9) (ado 10 0) x9) ++ ((wX0 G (ado 10) x10) ++ ((wX2 G (ado 11) x11) ++ ((wX2 G (ado 12) x12) ++ ((wX2 G (ado 13) x13) ++ ((wX2 G (ado 14) x14) ++ (wX7 G ad7 g))))))))))))))) := catw_perm (as := [0, 1, 2, 3, 4, 5, 6, 7, 8, 9, 10, 11, 12, 13, 14, 15]) (is := [0, 1]) (rs := [2, 3, 4, 5, 6, 7, 8, 9, 10, 11, 12, 13, 14, 15]) (PC G ad ado ad7 (M16 x0 x1 x2 x3 x4 x5 x6 x7 x8 x9 x10 x11 x12 x13 x14 g)) (by decide)
  have p2 : List.Perm (WL G ad ado ad7 x0 x1' x2 x3 x4 x5 x6 x7 x8 x9 x10 x11 x12 x13 x14 g) (((wX6 G ad ado x0) ++ (wX0 G (ado 1) x1')) ++ ((wX0 G (ado 2) x2) ++ ((wX0 G (ado 3) x3) ++ ((wX0 G (ado 4) x4) ++ ((wX4 G (ado 5) x5) ++ ((wX5 G (ado 6) (ado 7 0) x6) ++ ((wX0 G (ado 7) x7) ++ ((wX3 G (ado 8) x8) ++ ((wX1 G (ado 9) (ado 10 0) x9) ++ ((wX0 G (ado 10) x10) ++ ((wX2 G (ado 11) x11) ++ ((wX2 G (ado 12) x12) ++ ((wX2 G (ado 13) x13) ++ ((wX2 G (ado 14) x14) ++ (wX7 G ad7 g))))))))))))))) := catw_perm (as := [0, 1, 2, 3, 4, 5, 6, 7, 8, 9, 10, 11, 12, 13, 14, 15]) (is := [0, 1]) (rs := [2, 3, 4, 5, 6, 7, 8, 9, 10, 11, 12, 13, 14, 15]) (PC G ad ado ad7 (M16 x0 x1' x2 x3 x4 x5 x6 x7 x8 x9 x10 x11 x12 x13 x14 g)) (by decide)
  have hPc : va_P G.1 vwCl ((wX6 G ad ado x0) ++ (wX0 G (ado 1) x1)) H := va_P_l (va_P_pm p1 hP)
  have hDc : va_D (fun q : Nat => s.heap.size ≤ q) ((wX6 G ad ado x0) ++ (wX0 G (ado 1) x1)) := va_D_l (va_D_pm p1 hD)
  refine cl_i_pm (Wd := (WL G ad ado ad7 x0 x1 x2 x3 x4 x5 x6 x7 x8 x9 x10 x11 x12 x13 x14 g)) (Wc := ((wX6 G ad ado x0) ++ (wX0 G (ado 1) x1))) (W' := ((wX6 G ad ado x0) ++ (wX0 G (ado 1) x1'))) (W2 := (WL G ad ado ad7 x0 x1' x2 x3 x4 x5 x6 x7 x8 x9 x10 x11 x12 x13 x14 g)) (Wr := ((wX0 G (ado 2) x2) ++ ((wX0 G (ado 3) x3) ++ ((wX0 G (ado 4) x4) ++ ((wX4 G (ado 5) x5) ++ ((wX5 G (ado 6) (ado 7 0) x6) ++ ((wX0 G (ado 7) x7) ++ ((wX3 G (ado 8) x8) ++ ((wX1 G (ado 9) (ado 10 0) x9) ++ ((wX0 G (ado 10) x10) ++ ((wX2 G (ado 11) x11) ++ ((wX2 G (ado 12) x12) ++ ((wX2 G (ado 13) x13) ++ ((wX2 G (ado 14) x14) ++ (wX7 G ad7 g))))))))))))))) p1 p2 (va_runV (As := [.int (xs (nI i + nI 1).toNatClampNeg), .int (xs (nI i + nI 2).toNatClampNeg), .int (xs (nI i + nI 3).toNatClampNeg)]) (rest := []) hC (c_X6_grant l G ad ado x0 x1 (xs (nI i + nI 1).toNatClampNeg) (xs (nI i + nI 2).toNatClampNeg) (xs (nI i + nI 3).toNatClampNeg) r x1' e1 _) (cwV 3 hts gL_law_X6_grant rfl rfl rfl (by decide +kernel) ⟨Nat.le_of_ble_eq_true rfl, Nat.le_of_ble_eq_true rfl⟩) ⟨Pc0_blind, va_recv hT hPc (q0 := 0) (ci := 6) rfl rfl, fun U hU hW => Pc0_at (Wd := ((wX6 G ad ado x0) ++ (wX0 G (ado 1) x1))) hE hPc hDc hU hW⟩ rfl rfl hl.1 rfl (lv_room (Nat.le_of_ble_eq_true rfl)) dL_law_547 ⟨Nat.le_of_ble_eq_true rfl, Nat.le_of_ble_eq_true rfl⟩) hS hA hP hD (fun H locs hP hD hS => ?_)
  clear p1 p2 hPc hDc
  refine lv_aload_n hx hb dL_law_550 rfl (lv_at hl 2 rfl) ?_
  refine lv_aload_n hx hb dL_law_551 rfl (lv_at hl 0 rfl) ?_
  refine lv_iload_n hx hb dL_law_552 rfl (lv_at hl 3 rfl) ?_
  refine lv_iconst (v := (nI 1)) hx hb dL_law_553 (ic_1) ?_
  refine lv_iadd hx hb dL_law_554 ?_
  refine va_sld hx hb hX hbl hbA hS hn1 dL_law_555 ?_
  refine lv_aload_n hx hb dL_law_556 rfl (lv_at hl 0 rfl) ?_
  refine lv_iload_n hx hb dL_law_557 rfl (lv_at hl 3 rfl) ?_
  refine lv_iconst (v := (nI 2)) hx hb dL_law_558 (ic_2) ?_
  refine lv_iadd hx hb dL_law_559 ?_
  refine va_sld hx hb hX hbl hbA hS hn2 dL_law_560 ?_
  refine lv_aload_n hx hb dL_law_561 rfl (lv_at hl 0 rfl) ?_
  refine lv_iload_n hx hb dL_law_562 rfl (lv_at hl 3 rfl) ?_
  refine lv_iconst (v := (nI 3)) hx hb dL_law_563 (ic_3) ?_
  refine lv_iadd hx hb dL_law_564 ?_
  refine va_sld hx hb hX hbl hbA hS hn3 dL_law_565 ?_
  have p1 : List.Perm (WL G ad ado ad7 x0 x1' x2 x3 x4 x5 x6 x7 x8 x9 x10 x11 x12 x13 x14 g) ((wX7 G ad7 g) ++ ((wX6 G ad ado x0) ++ ((wX0 G (ado 1) x1') ++ ((wX0 G (ado 2) x2) ++ ((wX0 G (ado 3) x3) ++ ((wX0 G (ado 4) x4) ++ ((wX4 G (ado 5) x5) ++ ((wX5 G (ado 6) (ado 7 0) x6) ++ ((wX0 G (ado 7) x7) ++ ((wX3 G (ado 8) x8) ++ ((wX1 G (ado 9) (ado 10 0) x9) ++ ((wX0 G (ado 10) x10) ++ ((wX2 G (ado 11) x11) ++ ((wX2 G (ado 12) x12) ++ ((wX2 G (ado 13) x13) ++ (wX2 G (ado 14) x14)))))))))))))))) := catw_perm (as := [0, 1, 2, 3, 4, 5, 6, 7, 8, 9, 10, 11, 12, 13, 14, 15]) (is := [15]) (rs := [0, 1, 2, 3, 4, 5, 6, 7, 8, 9, 10, 11, 12, 13, 14]) (PC G ad ado ad7 (M16 x0 x1' x2 x3 x4 x5 x6 x7 x8 x9 x10 x11 x12 x13 x14 g)) (by decide)
  have p2 : List.Perm (WL G ad ado ad7 x0 x1' x2 x3 x4 x5 x6 x7 x8 x9 x10 x11 x12 x13 x14 g') ((wX7 G ad7 g') ++ ((wX6 G ad ado x0) ++ ((wX0 G (ado 1) x1') ++ ((wX0 G (ado 2) x2) ++ ((wX0 G (ado 3) x3) ++ ((wX0 G (ado 4) x4) ++ ((wX4 G (ado 5) x5) ++ ((wX5 G (ado 6) (ado 7 0) x6) ++ ((wX0 G (ado 7) x7) ++ ((wX3 G (ado 8) x8) ++ ((wX1 G (ado 9) (ado 10 0) x9) ++ ((wX0 G (ado 10) x10) ++ ((wX2 G (ado 11) x11) ++ ((wX2 G (ado 12) x12) ++ ((wX2 G (ado 13) x13) ++ (wX2 G (ado 14) x14)))))))))))))))) := catw_perm (as := [0, 1, 2, 3, 4, 5, 6, 7, 8, 9, 10, 11, 12, 13, 14, 15]) (is := [15]) (rs := [0, 1, 2, 3, 4, 5, 6, 7, 8, 9, 10, 11, 12, 13, 14]) (PC G ad ado ad7 (M16 x0 x1' x2 x3 x4 x5 x6 x7 x8 x9 x10 x11 x12 x13 x14 g')) (by decide)
  have hPc : va_P G.1 vwCl (wX7 G ad7 g) H := va_P_l (va_P_pm p1 hP)
  have hDc : va_D (fun q : Nat => s.heap.size ≤ q) (wX7 G ad7 g) := va_D_l (va_D_pm p1 hD)
  refine cl_i_pm (Wd := (WL G ad ado ad7 x0 x1' x2 x3 x4 x5 x6 x7 x8 x9 x10 x11 x12 x13 x14 g)) (Wc := (wX7 G ad7 g)) (W' := (wX7 G ad7 g')) (W2 := (WL G ad ado ad7 x0 x1' x2 x3 x4 x5 x6 x7 x8 x9 x10 x11 x12 x13 x14 g')) (Wr := ((wX6 G ad ado x0) ++ ((wX0 G (ado 1) x1') ++ ((wX0 G (ado 2) x2) ++ ((wX0 G (ado 3) x3) ++ ((wX0 G (ado 4) x4) ++ ((wX4 G (ado 5) x5) ++ ((wX5 G (ado 6) (ado 7 0) x6) ++ ((wX0 G (ado 7) x7) ++ ((wX3 G (ado 8) x8) ++ ((wX1 G (ado 9) (ado 10 0) x9) ++ ((wX0 G (ado 10) x10) ++ ((wX2 G (ado 11) x11) ++ ((wX2 G (ado 12) x12) ++ ((wX2 G (ado 13) x13) ++ (wX2 G (ado 14) x14)))))))))))))))) p1 p2 (va_runV (As := [.int (xs (nI i + nI 1).toNatClampNeg), .int (xs (nI i + nI 2).toNatClampNeg), .int (xs (nI i + nI 3).toNatClampNeg)]) (rest := [.int r]) hC (c_X7_grant l G ad7 g (xs (nI i + nI 1).toNatClampNeg) (xs (nI i + nI 2).toNatClampNeg) (xs (nI i + nI 3).toNatClampNeg) r g' e2 _) (cwV 3 hts gL_law_X7_grant rfl rfl rfl (by decide +kernel) ⟨Nat.le_of_ble_eq_true rfl, Nat.le_of_ble_eq_true rfl⟩) ⟨Pc0_blind, va_recv hT hPc (q0 := 0) (ci := 7) rfl rfl, fun U hU hW => Pc0_at (Wd := (wX7 G ad7 g)) hE hPc hDc hU hW⟩ rfl rfl hl.1 rfl (lv_room (Nat.le_of_ble_eq_true rfl)) dL_law_566 ⟨Nat.le_of_ble_eq_true rfl, Nat.le_of_ble_eq_true rfl⟩) hS hA hP hD (fun H locs hP hD hS => ?_)
  clear p1 p2 hPc hDc
  refine lv_icmp_eq (tgt := 1766) hx hb dL_law_569 (by decide) (fun _ => ?_) (fun h => absurd rfl h)
  exact kk x0 x1' x2 x3 x4 x5 x6 x7 x8 x9 x10 x11 x12 x13 x14 g' H locs Rr' hP hD hS
set_option maxHeartbeats 8000000 in
set_option maxRecDepth 100000 in
theorem law_plan (hC : CallFix p m c cL_law 4 s args wsL_law RL) (hE : EV G s) (hZ : SV sk sv (fun q : Nat => s.heap.size ≤ q) s s.heap) (hX : va_X b L xs s s.heap) (hbl : b < s.heap.size) (hi : i + 6 ≤ L) (hL : L ≤ 384) (Rr : Rel x0 x1 x3 x4 x5 x6 x8 x11 x12 x13 x14 g) (hP : va_P G.1 vwCl (WL G ad ado ad7 x0 x1 x2 x3 x4 x5 x6 x7 x8 x9 x10 x11 x12 x13 x14 g) H) (hD : va_D (fun q : Nat => s.heap.size ≤ q) (WL G ad ado ad7 x0 x1 x2 x3 x4 x5 x6 x7 x8 x9 x10 x11 x12 x13 x14 g)) (hS : va_S (fun q : Nat => s.heap.size ≤ q) s.heap H locs) (hl : lv_has ls 4 [(0, .ref b), (1, .ref (ad 0)), (2, .ref (ad7 0)), (3, .int (nI i))]) (kk : GoOn p l e s m args below meth c G ad ado ad7 ls Q) : W p l e room_1 s m args below meth c H locs 100 2657 Q (F0 m 574 ls []) := by
  have hA : ∀ q : Nat, s.heap.size ≤ q → (fun q : Nat => s.heap.size ≤ q) q := fun _ h => h
  have hbA : ¬ (fun q : Nat => s.heap.size ≤ q) b := Nat.not_le.mpr hbl
  obtain ⟨hx, hb, hml, hown, hts⟩ := id hC
  have hT : va_K G.1 vwCl (tyL G) s := hE.1
  have hn1 : vp_in (nI i + nI 1) L := by rw [nI_add]; exact vp_in_nI (by omega) (by omega)
  have hn2 : vp_in (nI i + nI 2) L := by rw [nI_add]; exact vp_in_nI (by omega) (by omega)
  have hn3 : vp_in (nI i + nI 3) L := by rw [nI_add]; exact vp_in_nI (by omega) (by omega)
  have hn4 : vp_in (nI i + nI 4) L := by rw [nI_add]; exact vp_in_nI (by omega) (by omega)
  obtain ⟨r, x1', g', e1, e2, Rr'⟩ := op_plan Rr (xs (nI i + nI 1).toNatClampNeg) (xs (nI i + nI 2).toNatClampNeg) (xs (nI i + nI 3).toNatClampNeg) (xs (nI i + nI 4).toNatClampNeg)
  refine lv_aload_n hx hb dL_law_574 rfl (lv_at hl 1 rfl) ?_
  refine lv_aload_n hx hb dL_law_575 rfl (lv_at hl 0 rfl) ?_
  refine lv_iload_n hx hb dL_law_576 rfl (lv_at hl 3 rfl) ?_
  refine lv_iconst (v := (nI 1)) hx hb dL_law_577 (ic_1) ?_
  refine lv_iadd hx hb dL_law_578 ?_
  refine va_sld hx hb hX hbl hbA hS hn1 dL_law_579 ?_
  refine lv_aload_n hx hb dL_law_580 rfl (lv_at hl 0 rfl) ?_
  refine lv_iload_n hx hb dL_law_581 rfl (lv_at hl 3 rfl) ?_
  refine lv_iconst (v := (nI 2)) hx hb dL_law_582 (ic_2) ?_
  refine lv_iadd hx hb dL_law_583 ?_
  refine va_sld hx hb hX hbl hbA hS hn2 dL_law_584 ?_
  refine lv_aload_n hx hb dL_law_585 rfl (lv_at hl 0 rfl) ?_
  refine lv_iload_n hx hb dL_law_586 rfl (lv_at hl 3 rfl) ?_
  refine lv_iconst (v := (nI 3)) hx hb dL_law_587 (ic_3) ?_
  refine lv_iadd hx hb dL_law_588 ?_
  refine va_sld hx hb hX hbl hbA hS hn3 dL_law_589 ?_
  refine lv_aload_n hx hb dL_law_590 rfl (lv_at hl 0 rfl) ?_
  refine lv_iload_n hx hb dL_law_591 rfl (lv_at hl 3 rfl) ?_
  refine lv_iconst (v := (nI 4)) hx hb dL_law_592 (ic_4) ?_
  refine lv_iadd hx hb dL_law_593 ?_
  refine va_sld hx hb hX hbl hbA hS hn4 dL_law_594 ?_
  have p1 : List.Perm (WL G ad ado ad7 x0 x1 x2 x3 x4 x5 x6 x7 x8 x9 x10 x11 x12 x13 x14 g) (((wX6 G ad ado x0) ++ (wX0 G (ado 1) x1)) ++ ((wX0 G (ado 2) x2) ++ ((wX0 G (ado 3) x3) ++ ((wX0 G (ado 4) x4) ++ ((wX4 G (ado 5) x5) ++ ((wX5 G (ado 6) (ado 7 0) x6) ++ ((wX0 G (ado 7) x7) ++ ((wX3 G (ado 8) x8) ++ ((wX1 G (ado 9) (ado 10 0) x9) ++ ((wX0 G (ado 10) x10) ++ ((wX2 G (ado 11) x11) ++ ((wX2 G (ado 12) x12) ++ ((wX2 G (ado 13) x13) ++ ((wX2 G (ado 14) x14) ++ (wX7 G ad7 g))))))))))))))) := catw_perm (as := [0, 1, 2, 3, 4, 5, 6, 7, 8, 9, 10, 11, 12, 13, 14, 15]) (is := [0, 1]) (rs := [2, 3, 4, 5, 6, 7, 8, 9, 10, 11, 12, 13, 14, 15]) (PC G ad ado ad7 (M16 x0 x1 x2 x3 x4 x5 x6 x7 x8 x9 x10 x11 x12 x13 x14 g)) (by decide)
  have p2 : List.Perm (WL G ad ado ad7 x0 x1' x2 x3 x4 x5 x6 x7 x8 x9 x10 x11 x12 x13 x14 g) (((wX6 G ad ado x0) ++ (wX0 G (ado 1) x1')) ++ ((wX0 G (ado 2) x2) ++ ((wX0 G (ado 3) x3) ++ ((wX0 G (ado 4) x4) ++ ((wX4 G (ado 5) x5) ++ ((wX5 G (ado 6) (ado 7 0) x6) ++ ((wX0 G (ado 7) x7) ++ ((wX3 G (ado 8) x8) ++ ((wX1 G (ado 9) (ado 10 0) x9) ++ ((wX0 G (ado 10) x10) ++ ((wX2 G (ado 11) x11) ++ ((wX2 G (ado 12) x12) ++ ((wX2 G (ado 13) x13) ++ ((wX2 G (ado 14) x14) ++ (wX7 G ad7 g))))))))))))))) := catw_perm (as := [0, 1, 2, 3, 4, 5, 6, 7, 8, 9, 10, 11, 12, 13, 14, 15]) (is := [0, 1]) (rs := [2, 3, 4, 5, 6, 7, 8, 9, 10, 11, 12, 13, 14, 15]) (PC G ad ado ad7 (M16 x0 x1' x2 x3 x4 x5 x6 x7 x8 x9 x10 x11 x12 x13 x14 g)) (by decide)
  have hPc : va_P G.1 vwCl ((wX6 G ad ado x0) ++ (wX0 G (ado 1) x1)) H := va_P_l (va_P_pm p1 hP)
  have hDc : va_D (fun q : Nat => s.heap.size ≤ q) ((wX6 G ad ado x0) ++ (wX0 G (ado 1) x1)) := va_D_l (va_D_pm p1 hD)
  refine cl_i_pm (Wd := (WL G ad ado ad7 x0 x1 x2 x3 x4 x5 x6 x7 x8 x9 x10 x11 x12 x13 x14 g)) (Wc := ((wX6 G ad ado x0) ++ (wX0 G (ado 1) x1))) (W' := ((wX6 G ad ado x0) ++ (wX0 G (ado 1) x1'))) (W2 := (WL G ad ado ad7 x0 x1' x2 x3 x4 x5 x6 x7 x8 x9 x10 x11 x12 x13 x14 g)) (Wr := ((wX0 G (ado 2) x2) ++ ((wX0 G (ado 3) x3) ++ ((wX0 G (ado 4) x4) ++ ((wX4 G (ado 5) x5) ++ ((wX5 G (ado 6) (ado 7 0) x6) ++ ((wX0 G (ado 7) x7) ++ ((wX3 G (ado 8) x8) ++ ((wX1 G (ado 9) (ado 10 0) x9) ++ ((wX0 G (ado 10) x10) ++ ((wX2 G (ado 11) x11) ++ ((wX2 G (ado 12) x12) ++ ((wX2 G (ado 13) x13) ++ ((wX2 G (ado 14) x14) ++ (wX7 G ad7 g))))))))))))))) p1 p2 (va_runV (As := [.int (xs (nI i + nI 1).toNatClampNeg), .int (xs (nI i + nI 2).toNatClampNeg), .int (xs (nI i + nI 3).toNatClampNeg), .int (xs (nI i + nI 4).toNatClampNeg)]) (rest := []) hC (c_X6_plan l G ad ado x0 x1 (xs (nI i + nI 1).toNatClampNeg) (xs (nI i + nI 2).toNatClampNeg) (xs (nI i + nI 3).toNatClampNeg) (xs (nI i + nI 4).toNatClampNeg) r x1' e1 _) (cwV 4 hts gL_law_X6_plan rfl rfl rfl (by decide +kernel) ⟨Nat.le_of_ble_eq_true rfl, Nat.le_of_ble_eq_true rfl⟩) ⟨Pc0_blind, va_recv hT hPc (q0 := 0) (ci := 6) rfl rfl, fun U hU hW => Pc0_at (Wd := ((wX6 G ad ado x0) ++ (wX0 G (ado 1) x1))) hE hPc hDc hU hW⟩ rfl rfl hl.1 rfl (lv_room (Nat.le_of_ble_eq_true rfl)) dL_law_595 ⟨Nat.le_of_ble_eq_true rfl, Nat.le_of_ble_eq_true rfl⟩) hS hA hP hD (fun H locs hP hD hS => ?_)
  clear p1 p2 hPc hDc
  refine lv_aload_n hx hb dL_law_598 rfl (lv_at hl 2 rfl) ?_
  refine lv_aload_n hx hb dL_law_599 rfl (lv_at hl 0 rfl) ?_
  refine lv_iload_n hx hb dL_law_600 rfl (lv_at hl 3 rfl) ?_
  refine lv_iconst (v := (nI 1)) hx hb dL_law_601 (ic_1) ?_
  refine lv_iadd hx hb dL_law_602 ?_
  refine va_sld hx hb hX hbl hbA hS hn1 dL_law_603 ?_
  refine lv_aload_n hx hb dL_law_604 rfl (lv_at hl 0 rfl) ?_
  refine lv_iload_n hx hb dL_law_605 rfl (lv_at hl 3 rfl) ?_
  refine lv_iconst (v := (nI 2)) hx hb dL_law_606 (ic_2) ?_
  refine lv_iadd hx hb dL_law_607 ?_
  refine va_sld hx hb hX hbl hbA hS hn2 dL_law_608 ?_
  refine lv_aload_n hx hb dL_law_609 rfl (lv_at hl 0 rfl) ?_
  refine lv_iload_n hx hb dL_law_610 rfl (lv_at hl 3 rfl) ?_
  refine lv_iconst (v := (nI 3)) hx hb dL_law_611 (ic_3) ?_
  refine lv_iadd hx hb dL_law_612 ?_
  refine va_sld hx hb hX hbl hbA hS hn3 dL_law_613 ?_
  refine lv_aload_n hx hb dL_law_614 rfl (lv_at hl 0 rfl) ?_
  refine lv_iload_n hx hb dL_law_615 rfl (lv_at hl 3 rfl) ?_
  refine lv_iconst (v := (nI 4)) hx hb dL_law_616 (ic_4) ?_
  refine lv_iadd hx hb dL_law_617 ?_
  refine va_sld hx hb hX hbl hbA hS hn4 dL_law_618 ?_
  have p1 : List.Perm (WL G ad ado ad7 x0 x1' x2 x3 x4 x5 x6 x7 x8 x9 x10 x11 x12 x13 x14 g) ((wX7 G ad7 g) ++ ((wX6 G ad ado x0) ++ ((wX0 G (ado 1) x1') ++ ((wX0 G (ado 2) x2) ++ ((wX0 G (ado 3) x3) ++ ((wX0 G (ado 4) x4) ++ ((wX4 G (ado 5) x5) ++ ((wX5 G (ado 6) (ado 7 0) x6) ++ ((wX0 G (ado 7) x7) ++ ((wX3 G (ado 8) x8) ++ ((wX1 G (ado 9) (ado 10 0) x9) ++ ((wX0 G (ado 10) x10) ++ ((wX2 G (ado 11) x11) ++ ((wX2 G (ado 12) x12) ++ ((wX2 G (ado 13) x13) ++ (wX2 G (ado 14) x14)))))))))))))))) := catw_perm (as := [0, 1, 2, 3, 4, 5, 6, 7, 8, 9, 10, 11, 12, 13, 14, 15]) (is := [15]) (rs := [0, 1, 2, 3, 4, 5, 6, 7, 8, 9, 10, 11, 12, 13, 14]) (PC G ad ado ad7 (M16 x0 x1' x2 x3 x4 x5 x6 x7 x8 x9 x10 x11 x12 x13 x14 g)) (by decide)
  have p2 : List.Perm (WL G ad ado ad7 x0 x1' x2 x3 x4 x5 x6 x7 x8 x9 x10 x11 x12 x13 x14 g') ((wX7 G ad7 g') ++ ((wX6 G ad ado x0) ++ ((wX0 G (ado 1) x1') ++ ((wX0 G (ado 2) x2) ++ ((wX0 G (ado 3) x3) ++ ((wX0 G (ado 4) x4) ++ ((wX4 G (ado 5) x5) ++ ((wX5 G (ado 6) (ado 7 0) x6) ++ ((wX0 G (ado 7) x7) ++ ((wX3 G (ado 8) x8) ++ ((wX1 G (ado 9) (ado 10 0) x9) ++ ((wX0 G (ado 10) x10) ++ ((wX2 G (ado 11) x11) ++ ((wX2 G (ado 12) x12) ++ ((wX2 G (ado 13) x13) ++ (wX2 G (ado 14) x14)))))))))))))))) := catw_perm (as := [0, 1, 2, 3, 4, 5, 6, 7, 8, 9, 10, 11, 12, 13, 14, 15]) (is := [15]) (rs := [0, 1, 2, 3, 4, 5, 6, 7, 8, 9, 10, 11, 12, 13, 14]) (PC G ad ado ad7 (M16 x0 x1' x2 x3 x4 x5 x6 x7 x8 x9 x10 x11 x12 x13 x14 g')) (by decide)
  have hPc : va_P G.1 vwCl (wX7 G ad7 g) H := va_P_l (va_P_pm p1 hP)
  have hDc : va_D (fun q : Nat => s.heap.size ≤ q) (wX7 G ad7 g) := va_D_l (va_D_pm p1 hD)
  refine cl_i_pm (Wd := (WL G ad ado ad7 x0 x1' x2 x3 x4 x5 x6 x7 x8 x9 x10 x11 x12 x13 x14 g)) (Wc := (wX7 G ad7 g)) (W' := (wX7 G ad7 g')) (W2 := (WL G ad ado ad7 x0 x1' x2 x3 x4 x5 x6 x7 x8 x9 x10 x11 x12 x13 x14 g')) (Wr := ((wX6 G ad ado x0) ++ ((wX0 G (ado 1) x1') ++ ((wX0 G (ado 2) x2) ++ ((wX0 G (ado 3) x3) ++ ((wX0 G (ado 4) x4) ++ ((wX4 G (ado 5) x5) ++ ((wX5 G (ado 6) (ado 7 0) x6) ++ ((wX0 G (ado 7) x7) ++ ((wX3 G (ado 8) x8) ++ ((wX1 G (ado 9) (ado 10 0) x9) ++ ((wX0 G (ado 10) x10) ++ ((wX2 G (ado 11) x11) ++ ((wX2 G (ado 12) x12) ++ ((wX2 G (ado 13) x13) ++ (wX2 G (ado 14) x14)))))))))))))))) p1 p2 (va_runV (As := [.int (xs (nI i + nI 1).toNatClampNeg), .int (xs (nI i + nI 2).toNatClampNeg), .int (xs (nI i + nI 3).toNatClampNeg), .int (xs (nI i + nI 4).toNatClampNeg)]) (rest := [.int r]) hC (c_X7_plan l G ad7 g (xs (nI i + nI 1).toNatClampNeg) (xs (nI i + nI 2).toNatClampNeg) (xs (nI i + nI 3).toNatClampNeg) (xs (nI i + nI 4).toNatClampNeg) r g' e2 _) (cwV 4 hts gL_law_X7_plan rfl rfl rfl (by decide +kernel) ⟨Nat.le_of_ble_eq_true rfl, Nat.le_of_ble_eq_true rfl⟩) ⟨Pc0_blind, va_recv hT hPc (q0 := 0) (ci := 7) rfl rfl, fun U hU hW => Pc0_at (Wd := (wX7 G ad7 g)) hE hPc hDc hU hW⟩ rfl rfl hl.1 rfl (lv_room (Nat.le_of_ble_eq_true rfl)) dL_law_619 ⟨Nat.le_of_ble_eq_true rfl, Nat.le_of_ble_eq_true rfl⟩) hS hA hP hD (fun H locs hP hD hS => ?_)
  clear p1 p2 hPc hDc
  refine lv_icmp_eq (tgt := 1766) hx hb dL_law_622 (by decide) (fun _ => ?_) (fun h => absurd rfl h)
  exact kk x0 x1' x2 x3 x4 x5 x6 x7 x8 x9 x10 x11 x12 x13 x14 g' H locs Rr' hP hD hS
set_option maxHeartbeats 8000000 in
set_option maxRecDepth 100000 in
theorem law_cut (hC : CallFix p m c cL_law 4 s args wsL_law RL) (hE : EV G s) (hZ : SV sk sv (fun q : Nat => s.heap.size ≤ q) s s.heap) (hX : va_X b L xs s s.heap) (hbl : b < s.heap.size) (hi : i + 6 ≤ L) (hL : L ≤ 384) (Rr : Rel x0 x1 x3 x4 x5 x6 x8 x11 x12 x13 x14 g) (hP : va_P G.1 vwCl (WL G ad ado ad7 x0 x1 x2 x3 x4 x5 x6 x7 x8 x9 x10 x11 x12 x13 x14 g) H) (hD : va_D (fun q : Nat => s.heap.size ≤ q) (WL G ad ado ad7 x0 x1 x2 x3 x4 x5 x6 x7 x8 x9 x10 x11 x12 x13 x14 g)) (hS : va_S (fun q : Nat => s.heap.size ≤ q) s.heap H locs) (hl : lv_has ls 4 [(0, .ref b), (1, .ref (ad 0)), (2, .ref (ad7 0)), (3, .int (nI i))]) (kk : GoOn p l e s m args below meth c G ad ado ad7 ls Q) : W p l e room_1 s m args below meth c H locs 100 2657 Q (F0 m 627 ls []) := by
  have hA : ∀ q : Nat, s.heap.size ≤ q → (fun q : Nat => s.heap.size ≤ q) q := fun _ h => h
  have hbA : ¬ (fun q : Nat => s.heap.size ≤ q) b := Nat.not_le.mpr hbl
  obtain ⟨hx, hb, hml, hown, hts⟩ := id hC
  have hT : va_K G.1 vwCl (tyL G) s := hE.1
  have hn1 : vp_in (nI i + nI 1) L := by rw [nI_add]; exact vp_in_nI (by omega) (by omega)
  obtain ⟨r, x1', g', e1, e2, Rr'⟩ := op_cut Rr (xs (nI i + nI 1).toNatClampNeg)
  refine lv_aload_n hx hb dL_law_627 rfl (lv_at hl 1 rfl) ?_
  refine lv_aload_n hx hb dL_law_628 rfl (lv_at hl 0 rfl) ?_
  refine lv_iload_n hx hb dL_law_629 rfl (lv_at hl 3 rfl) ?_
  refine lv_iconst (v := (nI 1)) hx hb dL_law_630 (ic_1) ?_
  refine lv_iadd hx hb dL_law_631 ?_
  refine va_sld hx hb hX hbl hbA hS hn1 dL_law_632 ?_
  have p1 : List.Perm (WL G ad ado ad7 x0 x1 x2 x3 x4 x5 x6 x7 x8 x9 x10 x11 x12 x13 x14 g) (((wX6 G ad ado x0) ++ (wX0 G (ado 1) x1)) ++ ((wX0 G (ado 2) x2) ++ ((wX0 G (ado 3) x3) ++ ((wX0 G (ado 4) x4) ++ ((wX4 G (ado 5) x5) ++ ((wX5 G (ado 6) (ado 7 0) x6) ++ ((wX0 G (ado 7) x7) ++ ((wX3 G (ado 8) x8) ++ ((wX1 G (ado 9) (ado 10 0) x9) ++ ((wX0 G (ado 10) x10) ++ ((wX2 G (ado 11) x11) ++ ((wX2 G (ado 12) x12) ++ ((wX2 G (ado 13) x13) ++ ((wX2 G (ado 14) x14) ++ (wX7 G ad7 g))))))))))))))) := catw_perm (as := [0, 1, 2, 3, 4, 5, 6, 7, 8, 9, 10, 11, 12, 13, 14, 15]) (is := [0, 1]) (rs := [2, 3, 4, 5, 6, 7, 8, 9, 10, 11, 12, 13, 14, 15]) (PC G ad ado ad7 (M16 x0 x1 x2 x3 x4 x5 x6 x7 x8 x9 x10 x11 x12 x13 x14 g)) (by decide)
  have p2 : List.Perm (WL G ad ado ad7 x0 x1' x2 x3 x4 x5 x6 x7 x8 x9 x10 x11 x12 x13 x14 g) (((wX6 G ad ado x0) ++ (wX0 G (ado 1) x1')) ++ ((wX0 G (ado 2) x2) ++ ((wX0 G (ado 3) x3) ++ ((wX0 G (ado 4) x4) ++ ((wX4 G (ado 5) x5) ++ ((wX5 G (ado 6) (ado 7 0) x6) ++ ((wX0 G (ado 7) x7) ++ ((wX3 G (ado 8) x8) ++ ((wX1 G (ado 9) (ado 10 0) x9) ++ ((wX0 G (ado 10) x10) ++ ((wX2 G (ado 11) x11) ++ ((wX2 G (ado 12) x12) ++ ((wX2 G (ado 13) x13) ++ ((wX2 G (ado 14) x14) ++ (wX7 G ad7 g))))))))))))))) := catw_perm (as := [0, 1, 2, 3, 4, 5, 6, 7, 8, 9, 10, 11, 12, 13, 14, 15]) (is := [0, 1]) (rs := [2, 3, 4, 5, 6, 7, 8, 9, 10, 11, 12, 13, 14, 15]) (PC G ad ado ad7 (M16 x0 x1' x2 x3 x4 x5 x6 x7 x8 x9 x10 x11 x12 x13 x14 g)) (by decide)
  have hPc : va_P G.1 vwCl ((wX6 G ad ado x0) ++ (wX0 G (ado 1) x1)) H := va_P_l (va_P_pm p1 hP)
  have hDc : va_D (fun q : Nat => s.heap.size ≤ q) ((wX6 G ad ado x0) ++ (wX0 G (ado 1) x1)) := va_D_l (va_D_pm p1 hD)
  refine cl_i_pm (Wd := (WL G ad ado ad7 x0 x1 x2 x3 x4 x5 x6 x7 x8 x9 x10 x11 x12 x13 x14 g)) (Wc := ((wX6 G ad ado x0) ++ (wX0 G (ado 1) x1))) (W' := ((wX6 G ad ado x0) ++ (wX0 G (ado 1) x1'))) (W2 := (WL G ad ado ad7 x0 x1' x2 x3 x4 x5 x6 x7 x8 x9 x10 x11 x12 x13 x14 g)) (Wr := ((wX0 G (ado 2) x2) ++ ((wX0 G (ado 3) x3) ++ ((wX0 G (ado 4) x4) ++ ((wX4 G (ado 5) x5) ++ ((wX5 G (ado 6) (ado 7 0) x6) ++ ((wX0 G (ado 7) x7) ++ ((wX3 G (ado 8) x8) ++ ((wX1 G (ado 9) (ado 10 0) x9) ++ ((wX0 G (ado 10) x10) ++ ((wX2 G (ado 11) x11) ++ ((wX2 G (ado 12) x12) ++ ((wX2 G (ado 13) x13) ++ ((wX2 G (ado 14) x14) ++ (wX7 G ad7 g))))))))))))))) p1 p2 (va_runV (As := [.int (xs (nI i + nI 1).toNatClampNeg)]) (rest := []) hC (c_X6_cut l G ad ado x0 x1 (xs (nI i + nI 1).toNatClampNeg) r x1' e1 _) (cwV 1 hts gL_law_X6_cut rfl rfl rfl (by decide +kernel) ⟨Nat.le_of_ble_eq_true rfl, Nat.le_of_ble_eq_true rfl⟩) ⟨Pc0_blind, va_recv hT hPc (q0 := 0) (ci := 6) rfl rfl, fun U hU hW => Pc0_at (Wd := ((wX6 G ad ado x0) ++ (wX0 G (ado 1) x1))) hE hPc hDc hU hW⟩ rfl rfl hl.1 rfl (lv_room (Nat.le_of_ble_eq_true rfl)) dL_law_633 ⟨Nat.le_of_ble_eq_true rfl, Nat.le_of_ble_eq_true rfl⟩) hS hA hP hD (fun H locs hP hD hS => ?_)
  clear p1 p2 hPc hDc
  refine lv_aload_n hx hb dL_law_636 rfl (lv_at hl 2 rfl) ?_
  refine lv_aload_n hx hb dL_law_637 rfl (lv_at hl 0 rfl) ?_
  refine lv_iload_n hx hb dL_law_638 rfl (lv_at hl 3 rfl) ?_
  refine lv_iconst (v := (nI 1)) hx hb dL_law_639 (ic_1) ?_
  refine lv_iadd hx hb dL_law_640 ?_
  refine va_sld hx hb hX hbl hbA hS hn1 dL_law_641 ?_
  have p1 : List.Perm (WL G ad ado ad7 x0 x1' x2 x3 x4 x5 x6 x7 x8 x9 x10 x11 x12 x13 x14 g) ((wX7 G ad7 g) ++ ((wX6 G ad ado x0) ++ ((wX0 G (ado 1) x1') ++ ((wX0 G (ado 2) x2) ++ ((wX0 G (ado 3) x3) ++ ((wX0 G (ado 4) x4) ++ ((wX4 G (ado 5) x5) ++ ((wX5 G (ado 6) (ado 7 0) x6) ++ ((wX0 G (ado 7) x7) ++ ((wX3 G (ado 8) x8) ++ ((wX1 G (ado 9) (ado 10 0) x9) ++ ((wX0 G (ado 10) x10) ++ ((wX2 G (ado 11) x11) ++ ((wX2 G (ado 12) x12) ++ ((wX2 G (ado 13) x13) ++ (wX2 G (ado 14) x14)))))))))))))))) := catw_perm (as := [0, 1, 2, 3, 4, 5, 6, 7, 8, 9, 10, 11, 12, 13, 14, 15]) (is := [15]) (rs := [0, 1, 2, 3, 4, 5, 6, 7, 8, 9, 10, 11, 12, 13, 14]) (PC G ad ado ad7 (M16 x0 x1' x2 x3 x4 x5 x6 x7 x8 x9 x10 x11 x12 x13 x14 g)) (by decide)
  have p2 : List.Perm (WL G ad ado ad7 x0 x1' x2 x3 x4 x5 x6 x7 x8 x9 x10 x11 x12 x13 x14 g') ((wX7 G ad7 g') ++ ((wX6 G ad ado x0) ++ ((wX0 G (ado 1) x1') ++ ((wX0 G (ado 2) x2) ++ ((wX0 G (ado 3) x3) ++ ((wX0 G (ado 4) x4) ++ ((wX4 G (ado 5) x5) ++ ((wX5 G (ado 6) (ado 7 0) x6) ++ ((wX0 G (ado 7) x7) ++ ((wX3 G (ado 8) x8) ++ ((wX1 G (ado 9) (ado 10 0) x9) ++ ((wX0 G (ado 10) x10) ++ ((wX2 G (ado 11) x11) ++ ((wX2 G (ado 12) x12) ++ ((wX2 G (ado 13) x13) ++ (wX2 G (ado 14) x14)))))))))))))))) := catw_perm (as := [0, 1, 2, 3, 4, 5, 6, 7, 8, 9, 10, 11, 12, 13, 14, 15]) (is := [15]) (rs := [0, 1, 2, 3, 4, 5, 6, 7, 8, 9, 10, 11, 12, 13, 14]) (PC G ad ado ad7 (M16 x0 x1' x2 x3 x4 x5 x6 x7 x8 x9 x10 x11 x12 x13 x14 g')) (by decide)
  have hPc : va_P G.1 vwCl (wX7 G ad7 g) H := va_P_l (va_P_pm p1 hP)
  have hDc : va_D (fun q : Nat => s.heap.size ≤ q) (wX7 G ad7 g) := va_D_l (va_D_pm p1 hD)
  refine cl_i_pm (Wd := (WL G ad ado ad7 x0 x1' x2 x3 x4 x5 x6 x7 x8 x9 x10 x11 x12 x13 x14 g)) (Wc := (wX7 G ad7 g)) (W' := (wX7 G ad7 g')) (W2 := (WL G ad ado ad7 x0 x1' x2 x3 x4 x5 x6 x7 x8 x9 x10 x11 x12 x13 x14 g')) (Wr := ((wX6 G ad ado x0) ++ ((wX0 G (ado 1) x1') ++ ((wX0 G (ado 2) x2) ++ ((wX0 G (ado 3) x3) ++ ((wX0 G (ado 4) x4) ++ ((wX4 G (ado 5) x5) ++ ((wX5 G (ado 6) (ado 7 0) x6) ++ ((wX0 G (ado 7) x7) ++ ((wX3 G (ado 8) x8) ++ ((wX1 G (ado 9) (ado 10 0) x9) ++ ((wX0 G (ado 10) x10) ++ ((wX2 G (ado 11) x11) ++ ((wX2 G (ado 12) x12) ++ ((wX2 G (ado 13) x13) ++ (wX2 G (ado 14) x14)))))))))))))))) p1 p2 (va_runV (As := [.int (xs (nI i + nI 1).toNatClampNeg)]) (rest := [.int r]) hC (c_X7_cut l G ad7 g (xs (nI i + nI 1).toNatClampNeg) r g' e2 _) (cwV 1 hts gL_law_X7_cut rfl rfl rfl (by decide +kernel) ⟨Nat.le_of_ble_eq_true rfl, Nat.le_of_ble_eq_true rfl⟩) ⟨Pc0_blind, va_recv hT hPc (q0 := 0) (ci := 7) rfl rfl, fun U hU hW => Pc0_at (Wd := (wX7 G ad7 g)) hE hPc hDc hU hW⟩ rfl rfl hl.1 rfl (lv_room (Nat.le_of_ble_eq_true rfl)) dL_law_642 ⟨Nat.le_of_ble_eq_true rfl, Nat.le_of_ble_eq_true rfl⟩) hS hA hP hD (fun H locs hP hD hS => ?_)
  clear p1 p2 hPc hDc
  refine lv_icmp_eq (tgt := 1766) hx hb dL_law_645 (by decide) (fun _ => ?_) (fun h => absurd rfl h)
  exact kk x0 x1' x2 x3 x4 x5 x6 x7 x8 x9 x10 x11 x12 x13 x14 g' H locs Rr' hP hD hS
set_option maxHeartbeats 8000000 in
set_option maxRecDepth 100000 in
theorem law_buy (hC : CallFix p m c cL_law 4 s args wsL_law RL) (hE : EV G s) (hZ : SV sk sv (fun q : Nat => s.heap.size ≤ q) s s.heap) (hX : va_X b L xs s s.heap) (hbl : b < s.heap.size) (hi : i + 6 ≤ L) (hL : L ≤ 384) (Rr : Rel x0 x1 x3 x4 x5 x6 x8 x11 x12 x13 x14 g) (hP : va_P G.1 vwCl (WL G ad ado ad7 x0 x1 x2 x3 x4 x5 x6 x7 x8 x9 x10 x11 x12 x13 x14 g) H) (hD : va_D (fun q : Nat => s.heap.size ≤ q) (WL G ad ado ad7 x0 x1 x2 x3 x4 x5 x6 x7 x8 x9 x10 x11 x12 x13 x14 g)) (hS : va_S (fun q : Nat => s.heap.size ≤ q) s.heap H locs) (hl : lv_has ls 4 [(0, .ref b), (1, .ref (ad 0)), (2, .ref (ad7 0)), (3, .int (nI i))]) (kk : GoOn p l e s m args below meth c G ad ado ad7 ls Q) : W p l e room_1 s m args below meth c H locs 100 2657 Q (F0 m 650 ls []) := by
  have hA : ∀ q : Nat, s.heap.size ≤ q → (fun q : Nat => s.heap.size ≤ q) q := fun _ h => h
  have hbA : ¬ (fun q : Nat => s.heap.size ≤ q) b := Nat.not_le.mpr hbl
  obtain ⟨hx, hb, hml, hown, hts⟩ := id hC
  have hT : va_K G.1 vwCl (tyL G) s := hE.1
  have hn1 : vp_in (nI i + nI 1) L := by rw [nI_add]; exact vp_in_nI (by omega) (by omega)
  have hn2 : vp_in (nI i + nI 2) L := by rw [nI_add]; exact vp_in_nI (by omega) (by omega)
  have hn3 : vp_in (nI i + nI 3) L := by rw [nI_add]; exact vp_in_nI (by omega) (by omega)
  have hn4 : vp_in (nI i + nI 4) L := by rw [nI_add]; exact vp_in_nI (by omega) (by omega)
  obtain ⟨r, x1', g', e1, e2, Rr'⟩ := op_buy Rr (xs (nI i + nI 1).toNatClampNeg) (xs (nI i + nI 2).toNatClampNeg) (xs (nI i + nI 3).toNatClampNeg) (xs (nI i + nI 4).toNatClampNeg)
  refine lv_aload_n hx hb dL_law_650 rfl (lv_at hl 1 rfl) ?_
  refine lv_aload_n hx hb dL_law_651 rfl (lv_at hl 0 rfl) ?_
  refine lv_iload_n hx hb dL_law_652 rfl (lv_at hl 3 rfl) ?_
  refine lv_iconst (v := (nI 1)) hx hb dL_law_653 (ic_1) ?_
  refine lv_iadd hx hb dL_law_654 ?_
  refine va_sld hx hb hX hbl hbA hS hn1 dL_law_655 ?_
  refine lv_aload_n hx hb dL_law_656 rfl (lv_at hl 0 rfl) ?_
  refine lv_iload_n hx hb dL_law_657 rfl (lv_at hl 3 rfl) ?_
  refine lv_iconst (v := (nI 2)) hx hb dL_law_658 (ic_2) ?_
  refine lv_iadd hx hb dL_law_659 ?_
  refine va_sld hx hb hX hbl hbA hS hn2 dL_law_660 ?_
  refine lv_aload_n hx hb dL_law_661 rfl (lv_at hl 0 rfl) ?_
  refine lv_iload_n hx hb dL_law_662 rfl (lv_at hl 3 rfl) ?_
  refine lv_iconst (v := (nI 3)) hx hb dL_law_663 (ic_3) ?_
  refine lv_iadd hx hb dL_law_664 ?_
  refine va_sld hx hb hX hbl hbA hS hn3 dL_law_665 ?_
  refine lv_aload_n hx hb dL_law_666 rfl (lv_at hl 0 rfl) ?_
  refine lv_iload_n hx hb dL_law_667 rfl (lv_at hl 3 rfl) ?_
  refine lv_iconst (v := (nI 4)) hx hb dL_law_668 (ic_4) ?_
  refine lv_iadd hx hb dL_law_669 ?_
  refine va_sld hx hb hX hbl hbA hS hn4 dL_law_670 ?_
  have p1 : List.Perm (WL G ad ado ad7 x0 x1 x2 x3 x4 x5 x6 x7 x8 x9 x10 x11 x12 x13 x14 g) (((wX6 G ad ado x0) ++ (wX0 G (ado 1) x1)) ++ ((wX0 G (ado 2) x2) ++ ((wX0 G (ado 3) x3) ++ ((wX0 G (ado 4) x4) ++ ((wX4 G (ado 5) x5) ++ ((wX5 G (ado 6) (ado 7 0) x6) ++ ((wX0 G (ado 7) x7) ++ ((wX3 G (ado 8) x8) ++ ((wX1 G (ado 9) (ado 10 0) x9) ++ ((wX0 G (ado 10) x10) ++ ((wX2 G (ado 11) x11) ++ ((wX2 G (ado 12) x12) ++ ((wX2 G (ado 13) x13) ++ ((wX2 G (ado 14) x14) ++ (wX7 G ad7 g))))))))))))))) := catw_perm (as := [0, 1, 2, 3, 4, 5, 6, 7, 8, 9, 10, 11, 12, 13, 14, 15]) (is := [0, 1]) (rs := [2, 3, 4, 5, 6, 7, 8, 9, 10, 11, 12, 13, 14, 15]) (PC G ad ado ad7 (M16 x0 x1 x2 x3 x4 x5 x6 x7 x8 x9 x10 x11 x12 x13 x14 g)) (by decide)
  have p2 : List.Perm (WL G ad ado ad7 x0 x1' x2 x3 x4 x5 x6 x7 x8 x9 x10 x11 x12 x13 x14 g) (((wX6 G ad ado x0) ++ (wX0 G (ado 1) x1')) ++ ((wX0 G (ado 2) x2) ++ ((wX0 G (ado 3) x3) ++ ((wX0 G (ado 4) x4) ++ ((wX4 G (ado 5) x5) ++ ((wX5 G (ado 6) (ado 7 0) x6) ++ ((wX0 G (ado 7) x7) ++ ((wX3 G (ado 8) x8) ++ ((wX1 G (ado 9) (ado 10 0) x9) ++ ((wX0 G (ado 10) x10) ++ ((wX2 G (ado 11) x11) ++ ((wX2 G (ado 12) x12) ++ ((wX2 G (ado 13) x13) ++ ((wX2 G (ado 14) x14) ++ (wX7 G ad7 g))))))))))))))) := catw_perm (as := [0, 1, 2, 3, 4, 5, 6, 7, 8, 9, 10, 11, 12, 13, 14, 15]) (is := [0, 1]) (rs := [2, 3, 4, 5, 6, 7, 8, 9, 10, 11, 12, 13, 14, 15]) (PC G ad ado ad7 (M16 x0 x1' x2 x3 x4 x5 x6 x7 x8 x9 x10 x11 x12 x13 x14 g)) (by decide)
  have hPc : va_P G.1 vwCl ((wX6 G ad ado x0) ++ (wX0 G (ado 1) x1)) H := va_P_l (va_P_pm p1 hP)
  have hDc : va_D (fun q : Nat => s.heap.size ≤ q) ((wX6 G ad ado x0) ++ (wX0 G (ado 1) x1)) := va_D_l (va_D_pm p1 hD)
  refine cl_i_pm (Wd := (WL G ad ado ad7 x0 x1 x2 x3 x4 x5 x6 x7 x8 x9 x10 x11 x12 x13 x14 g)) (Wc := ((wX6 G ad ado x0) ++ (wX0 G (ado 1) x1))) (W' := ((wX6 G ad ado x0) ++ (wX0 G (ado 1) x1'))) (W2 := (WL G ad ado ad7 x0 x1' x2 x3 x4 x5 x6 x7 x8 x9 x10 x11 x12 x13 x14 g)) (Wr := ((wX0 G (ado 2) x2) ++ ((wX0 G (ado 3) x3) ++ ((wX0 G (ado 4) x4) ++ ((wX4 G (ado 5) x5) ++ ((wX5 G (ado 6) (ado 7 0) x6) ++ ((wX0 G (ado 7) x7) ++ ((wX3 G (ado 8) x8) ++ ((wX1 G (ado 9) (ado 10 0) x9) ++ ((wX0 G (ado 10) x10) ++ ((wX2 G (ado 11) x11) ++ ((wX2 G (ado 12) x12) ++ ((wX2 G (ado 13) x13) ++ ((wX2 G (ado 14) x14) ++ (wX7 G ad7 g))))))))))))))) p1 p2 (va_runV (As := [.int (xs (nI i + nI 1).toNatClampNeg), .int (xs (nI i + nI 2).toNatClampNeg), .int (xs (nI i + nI 3).toNatClampNeg), .int (xs (nI i + nI 4).toNatClampNeg)]) (rest := []) hC (c_X6_buy l G ad ado x0 x1 (xs (nI i + nI 1).toNatClampNeg) (xs (nI i + nI 2).toNatClampNeg) (xs (nI i + nI 3).toNatClampNeg) (xs (nI i + nI 4).toNatClampNeg) r x1' e1 _) (cwV 4 hts gL_law_X6_buy rfl rfl rfl (by decide +kernel) ⟨Nat.le_of_ble_eq_true rfl, Nat.le_of_ble_eq_true rfl⟩) ⟨Pc0_blind, va_recv hT hPc (q0 := 0) (ci := 6) rfl rfl, fun U hU hW => Pc0_at (Wd := ((wX6 G ad ado x0) ++ (wX0 G (ado 1) x1))) hE hPc hDc hU hW⟩ rfl rfl hl.1 rfl (lv_room (Nat.le_of_ble_eq_true rfl)) dL_law_671 ⟨Nat.le_of_ble_eq_true rfl, Nat.le_of_ble_eq_true rfl⟩) hS hA hP hD (fun H locs hP hD hS => ?_)
  clear p1 p2 hPc hDc
  refine lv_aload_n hx hb dL_law_674 rfl (lv_at hl 2 rfl) ?_
  refine lv_aload_n hx hb dL_law_675 rfl (lv_at hl 0 rfl) ?_
  refine lv_iload_n hx hb dL_law_676 rfl (lv_at hl 3 rfl) ?_
  refine lv_iconst (v := (nI 1)) hx hb dL_law_677 (ic_1) ?_
  refine lv_iadd hx hb dL_law_678 ?_
  refine va_sld hx hb hX hbl hbA hS hn1 dL_law_679 ?_
  refine lv_aload_n hx hb dL_law_680 rfl (lv_at hl 0 rfl) ?_
  refine lv_iload_n hx hb dL_law_681 rfl (lv_at hl 3 rfl) ?_
  refine lv_iconst (v := (nI 2)) hx hb dL_law_682 (ic_2) ?_
  refine lv_iadd hx hb dL_law_683 ?_
  refine va_sld hx hb hX hbl hbA hS hn2 dL_law_684 ?_
  refine lv_aload_n hx hb dL_law_685 rfl (lv_at hl 0 rfl) ?_
  refine lv_iload_n hx hb dL_law_686 rfl (lv_at hl 3 rfl) ?_
  refine lv_iconst (v := (nI 3)) hx hb dL_law_687 (ic_3) ?_
  refine lv_iadd hx hb dL_law_688 ?_
  refine va_sld hx hb hX hbl hbA hS hn3 dL_law_689 ?_
  refine lv_aload_n hx hb dL_law_690 rfl (lv_at hl 0 rfl) ?_
  refine lv_iload_n hx hb dL_law_691 rfl (lv_at hl 3 rfl) ?_
  refine lv_iconst (v := (nI 4)) hx hb dL_law_692 (ic_4) ?_
  refine lv_iadd hx hb dL_law_693 ?_
  refine va_sld hx hb hX hbl hbA hS hn4 dL_law_694 ?_
  have p1 : List.Perm (WL G ad ado ad7 x0 x1' x2 x3 x4 x5 x6 x7 x8 x9 x10 x11 x12 x13 x14 g) ((wX7 G ad7 g) ++ ((wX6 G ad ado x0) ++ ((wX0 G (ado 1) x1') ++ ((wX0 G (ado 2) x2) ++ ((wX0 G (ado 3) x3) ++ ((wX0 G (ado 4) x4) ++ ((wX4 G (ado 5) x5) ++ ((wX5 G (ado 6) (ado 7 0) x6) ++ ((wX0 G (ado 7) x7) ++ ((wX3 G (ado 8) x8) ++ ((wX1 G (ado 9) (ado 10 0) x9) ++ ((wX0 G (ado 10) x10) ++ ((wX2 G (ado 11) x11) ++ ((wX2 G (ado 12) x12) ++ ((wX2 G (ado 13) x13) ++ (wX2 G (ado 14) x14)))))))))))))))) := catw_perm (as := [0, 1, 2, 3, 4, 5, 6, 7, 8, 9, 10, 11, 12, 13, 14, 15]) (is := [15]) (rs := [0, 1, 2, 3, 4, 5, 6, 7, 8, 9, 10, 11, 12, 13, 14]) (PC G ad ado ad7 (M16 x0 x1' x2 x3 x4 x5 x6 x7 x8 x9 x10 x11 x12 x13 x14 g)) (by decide)
  have p2 : List.Perm (WL G ad ado ad7 x0 x1' x2 x3 x4 x5 x6 x7 x8 x9 x10 x11 x12 x13 x14 g') ((wX7 G ad7 g') ++ ((wX6 G ad ado x0) ++ ((wX0 G (ado 1) x1') ++ ((wX0 G (ado 2) x2) ++ ((wX0 G (ado 3) x3) ++ ((wX0 G (ado 4) x4) ++ ((wX4 G (ado 5) x5) ++ ((wX5 G (ado 6) (ado 7 0) x6) ++ ((wX0 G (ado 7) x7) ++ ((wX3 G (ado 8) x8) ++ ((wX1 G (ado 9) (ado 10 0) x9) ++ ((wX0 G (ado 10) x10) ++ ((wX2 G (ado 11) x11) ++ ((wX2 G (ado 12) x12) ++ ((wX2 G (ado 13) x13) ++ (wX2 G (ado 14) x14)))))))))))))))) := catw_perm (as := [0, 1, 2, 3, 4, 5, 6, 7, 8, 9, 10, 11, 12, 13, 14, 15]) (is := [15]) (rs := [0, 1, 2, 3, 4, 5, 6, 7, 8, 9, 10, 11, 12, 13, 14]) (PC G ad ado ad7 (M16 x0 x1' x2 x3 x4 x5 x6 x7 x8 x9 x10 x11 x12 x13 x14 g')) (by decide)
  have hPc : va_P G.1 vwCl (wX7 G ad7 g) H := va_P_l (va_P_pm p1 hP)
  have hDc : va_D (fun q : Nat => s.heap.size ≤ q) (wX7 G ad7 g) := va_D_l (va_D_pm p1 hD)
  refine cl_i_pm (Wd := (WL G ad ado ad7 x0 x1' x2 x3 x4 x5 x6 x7 x8 x9 x10 x11 x12 x13 x14 g)) (Wc := (wX7 G ad7 g)) (W' := (wX7 G ad7 g')) (W2 := (WL G ad ado ad7 x0 x1' x2 x3 x4 x5 x6 x7 x8 x9 x10 x11 x12 x13 x14 g')) (Wr := ((wX6 G ad ado x0) ++ ((wX0 G (ado 1) x1') ++ ((wX0 G (ado 2) x2) ++ ((wX0 G (ado 3) x3) ++ ((wX0 G (ado 4) x4) ++ ((wX4 G (ado 5) x5) ++ ((wX5 G (ado 6) (ado 7 0) x6) ++ ((wX0 G (ado 7) x7) ++ ((wX3 G (ado 8) x8) ++ ((wX1 G (ado 9) (ado 10 0) x9) ++ ((wX0 G (ado 10) x10) ++ ((wX2 G (ado 11) x11) ++ ((wX2 G (ado 12) x12) ++ ((wX2 G (ado 13) x13) ++ (wX2 G (ado 14) x14)))))))))))))))) p1 p2 (va_runV (As := [.int (xs (nI i + nI 1).toNatClampNeg), .int (xs (nI i + nI 2).toNatClampNeg), .int (xs (nI i + nI 3).toNatClampNeg), .int (xs (nI i + nI 4).toNatClampNeg)]) (rest := [.int r]) hC (c_X7_buy l G ad7 g (xs (nI i + nI 1).toNatClampNeg) (xs (nI i + nI 2).toNatClampNeg) (xs (nI i + nI 3).toNatClampNeg) (xs (nI i + nI 4).toNatClampNeg) r g' e2 _) (cwV 4 hts gL_law_X7_buy rfl rfl rfl (by decide +kernel) ⟨Nat.le_of_ble_eq_true rfl, Nat.le_of_ble_eq_true rfl⟩) ⟨Pc0_blind, va_recv hT hPc (q0 := 0) (ci := 7) rfl rfl, fun U hU hW => Pc0_at (Wd := (wX7 G ad7 g)) hE hPc hDc hU hW⟩ rfl rfl hl.1 rfl (lv_room (Nat.le_of_ble_eq_true rfl)) dL_law_695 ⟨Nat.le_of_ble_eq_true rfl, Nat.le_of_ble_eq_true rfl⟩) hS hA hP hD (fun H locs hP hD hS => ?_)
  clear p1 p2 hPc hDc
  refine lv_icmp_eq (tgt := 1766) hx hb dL_law_698 (by decide) (fun _ => ?_) (fun h => absurd rfl h)
  exact kk x0 x1' x2 x3 x4 x5 x6 x7 x8 x9 x10 x11 x12 x13 x14 g' H locs Rr' hP hD hS
end LAWC

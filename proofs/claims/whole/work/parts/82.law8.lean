/-! ===== the law's loop: what each call does to both ===== -/
section LAWC
variable {p : Program} {l : Launch} {e : Env} {s : State} {m : MethodId} {args : Array Value} {below : List Frame} {meth : Method} {c : Code} {G : Gt} {ad ad7 : Nat → Nat} {ado : Nat → Nat → Nat} {sk sv : Nat → Nat} {b L i : Nat} {xs : Nat → Int32} {x0 x1 x2 x3 x4 x5 x6 x7 x8 x9 x10 x11 x12 x13 x14 g : Mem} {H : Heap} {locs : List Loc} {ls : Array Slot} {Q : State → Prop}
set_option maxHeartbeats 8000000 in
set_option maxRecDepth 100000 in
theorem law_skins (hC : CallFix p m c cL_law 4 s args wsL_law RL) (hE : EV G s) (hZ : SV sk sv (fun q : Nat => s.heap.size ≤ q) s s.heap) (hX : va_X b L xs s s.heap) (hbl : b < s.heap.size) (hi : i + 6 ≤ L) (hL : L ≤ 384) (Rr : Rel x0 x1 x3 x4 x5 x6 x8 x11 x12 x13 x14 g) (hP : va_P G.1 vwCl (WL G ad ado ad7 x0 x1 x2 x3 x4 x5 x6 x7 x8 x9 x10 x11 x12 x13 x14 g) H) (hD : va_D (fun q : Nat => s.heap.size ≤ q) (WL G ad ado ad7 x0 x1 x2 x3 x4 x5 x6 x7 x8 x9 x10 x11 x12 x13 x14 g)) (hS : va_S (fun q : Nat => s.heap.size ≤ q) s.heap H locs) (hl : lv_has ls 4 [(0, .ref b), (1, .ref (ad 0)), (2, .ref (ad7 0)), (3, .int (nI i))]) (kk : GoOn p l e s m args below meth c G ad ado ad7 ls Q) : W p l e room_1 s m args below meth c H locs 100 2657 Q (F0 m 1446 ls []) := by
  have hA : ∀ q : Nat, s.heap.size ≤ q → (fun q : Nat => s.heap.size ≤ q) q := fun _ h => h
  have hbA : ¬ (fun q : Nat => s.heap.size ≤ q) b := Nat.not_le.mpr hbl
  obtain ⟨hx, hb, hml, hown, hts⟩ := id hC
  have hT : va_K G.1 vwCl (tyL G) s := hE.1
  have hn1 : vp_in (nI i + nI 1) L := by rw [nI_add]; exact vp_in_nI (by omega) (by omega)
  obtain ⟨r, x2', g', e1, e2, Rr'⟩ := op_skins Rr x2 (xs (nI i + nI 1).toNatClampNeg)
  refine lv_aload_n hx hb dL_law_1446 rfl (lv_at hl 1 rfl) ?_
  refine lv_aload_n hx hb dL_law_1447 rfl (lv_at hl 0 rfl) ?_
  refine lv_iload_n hx hb dL_law_1448 rfl (lv_at hl 3 rfl) ?_
  refine lv_iconst (v := (nI 1)) hx hb dL_law_1449 (ic_1) ?_
  refine lv_iadd hx hb dL_law_1450 ?_
  refine va_sld hx hb hX hbl hbA hS hn1 dL_law_1451 ?_
  refine cl_i_up (Wd := (WL G ad ado ad7 x0 x1 x2 x3 x4 x5 x6 x7 x8 x9 x10 x11 x12 x13 x14 g)) (Wc := ((wX6 G ad ado x0) ++ ((wX0 G (ado 1) x1) ++ ((wX0 G (ado 2) x2) ++ (wX3 G (ado 8) x8))))) (W' := ((wX6 G ad ado x0) ++ ((wX0 G (ado 1) x1) ++ ((wX0 G (ado 2) x2') ++ (wX3 G (ado 8) x8))))) (W2 := (WL G ad ado ad7 x0 x1 x2' x3 x4 x5 x6 x7 x8 x9 x10 x11 x12 x13 x14 g)) (Wr := ((wX0 G (ado 3) x3) ++ ((wX0 G (ado 4) x4) ++ ((wX4 G (ado 5) x5) ++ ((wX5 G (ado 6) (ado 7 0) x6) ++ ((wX0 G (ado 7) x7) ++ ((wX1 G (ado 9) (ado 10 0) x9) ++ ((wX0 G (ado 10) x10) ++ ((wX2 G (ado 11) x11) ++ ((wX2 G (ado 12) x12) ++ ((wX2 G (ado 13) x13) ++ ((wX2 G (ado 14) x14) ++ (wX7 G ad7 g))))))))))))) [0, 1, 2, 3, 4, 5, 6, 7, 8, 9, 10, 11, 12, 13, 14, 15, 16, 17, 18, 19, 20, 21, 22, 23, 24, 25, 62, 63, 64, 65, 66] [26, 27, 28, 29, 30, 31, 32, 33, 34, 35, 36, 37, 38, 39, 40, 41, 42, 43, 44, 45, 46, 47, 48, 49, 50, 51, 52, 53, 54, 55, 56, 57, 58, 59, 60, 61, 67, 68, 69, 70, 71, 72, 73, 74, 75, 76, 77, 78, 79, 80, 81, 82, 83, 84, 85, 86, 87, 88, 89, 90, 91, 92, 93, 94, 95, 96, 97, 98, 99] rfl rfl rfl rfl rfl rfl (va_runV (As := [.int (xs (nI i + nI 1).toNatClampNeg)]) (rest := []) hC (c_X6_skins l G ad ado x0 x1 x2 x8 (xs (nI i + nI 1).toNatClampNeg) r x2' e1 _) (cwV 1 hts gL_law_X6_skins rfl rfl rfl (by decide +kernel) ⟨Nat.le_of_ble_eq_true rfl, Nat.le_of_ble_eq_true rfl⟩) ⟨Pc0_blind, va_recv hT hP (q0 := 0) (ci := 6) rfl rfl, fun U hU hW => Pc0_at (Wd := ((wX6 G ad ado x0) ++ ((wX0 G (ado 1) x1) ++ ((wX0 G (ado 2) x2) ++ (wX3 G (ado 8) x8))))) hE (hP.subm [0, 1, 2, 3, 4, 5, 6, 7, 8, 9, 10, 11, 12, 13, 14, 15, 16, 17, 18, 19, 20, 21, 22, 23, 24, 25, 62, 63, 64, 65, 66] rfl) (hD.sub [0, 1, 2, 3, 4, 5, 6, 7, 8, 9, 10, 11, 12, 13, 14, 15, 16, 17, 18, 19, 20, 21, 22, 23, 24, 25, 62, 63, 64, 65, 66] (by decide) rfl) hU hW⟩ rfl rfl hl.1 rfl (lv_room (Nat.le_of_ble_eq_true rfl)) dL_law_1452 ⟨Nat.le_of_ble_eq_true rfl, Nat.le_of_ble_eq_true rfl⟩) hS hA hP hD (fun H locs hP hD hS => ?_)
  refine lv_aload_n hx hb dL_law_1455 rfl (lv_at hl 2 rfl) ?_
  refine lv_aload_n hx hb dL_law_1456 rfl (lv_at hl 0 rfl) ?_
  refine lv_iload_n hx hb dL_law_1457 rfl (lv_at hl 3 rfl) ?_
  refine lv_iconst (v := (nI 1)) hx hb dL_law_1458 (ic_1) ?_
  refine lv_iadd hx hb dL_law_1459 ?_
  refine va_sld hx hb hX hbl hbA hS hn1 dL_law_1460 ?_
  refine cl_i_up (Wd := (WL G ad ado ad7 x0 x1 x2' x3 x4 x5 x6 x7 x8 x9 x10 x11 x12 x13 x14 g)) (Wc := (wX7 G ad7 g)) (W' := (wX7 G ad7 g')) (W2 := (WL G ad ado ad7 x0 x1 x2' x3 x4 x5 x6 x7 x8 x9 x10 x11 x12 x13 x14 g')) (Wr := ((wX6 G ad ado x0) ++ ((wX0 G (ado 1) x1) ++ ((wX0 G (ado 2) x2') ++ ((wX0 G (ado 3) x3) ++ ((wX0 G (ado 4) x4) ++ ((wX4 G (ado 5) x5) ++ ((wX5 G (ado 6) (ado 7 0) x6) ++ ((wX0 G (ado 7) x7) ++ ((wX3 G (ado 8) x8) ++ ((wX1 G (ado 9) (ado 10 0) x9) ++ ((wX0 G (ado 10) x10) ++ ((wX2 G (ado 11) x11) ++ ((wX2 G (ado 12) x12) ++ ((wX2 G (ado 13) x13) ++ (wX2 G (ado 14) x14)))))))))))))))) [88, 89, 90, 91, 92, 93, 94, 95, 96, 97, 98, 99] [0, 1, 2, 3, 4, 5, 6, 7, 8, 9, 10, 11, 12, 13, 14, 15, 16, 17, 18, 19, 20, 21, 22, 23, 24, 25, 26, 27, 28, 29, 30, 31, 32, 33, 34, 35, 36, 37, 38, 39, 40, 41, 42, 43, 44, 45, 46, 47, 48, 49, 50, 51, 52, 53, 54, 55, 56, 57, 58, 59, 60, 61, 62, 63, 64, 65, 66, 67, 68, 69, 70, 71, 72, 73, 74, 75, 76, 77, 78, 79, 80, 81, 82, 83, 84, 85, 86, 87] rfl rfl rfl rfl rfl rfl (va_runV (As := [.int (xs (nI i + nI 1).toNatClampNeg)]) (rest := [.int r]) hC (c_X7_skins l G ad7 g (xs (nI i + nI 1).toNatClampNeg) r g' e2 _) (cwV 1 hts gL_law_X7_skins rfl rfl rfl (by decide +kernel) ⟨Nat.le_of_ble_eq_true rfl, Nat.le_of_ble_eq_true rfl⟩) ⟨Pc0_blind, va_recv hT hP (q0 := 88) (ci := 7) rfl rfl, fun U hU hW => Pc0_at (Wd := (wX7 G ad7 g)) hE (hP.subm [88, 89, 90, 91, 92, 93, 94, 95, 96, 97, 98, 99] rfl) (hD.sub [88, 89, 90, 91, 92, 93, 94, 95, 96, 97, 98, 99] (by decide) rfl) hU hW⟩ rfl rfl hl.1 rfl (lv_room (Nat.le_of_ble_eq_true rfl)) dL_law_1461 ⟨Nat.le_of_ble_eq_true rfl, Nat.le_of_ble_eq_true rfl⟩) hS hA hP hD (fun H locs hP hD hS => ?_)
  refine lv_icmp_eq (tgt := 1766) hx hb dL_law_1464 (by decide) (fun _ => ?_) (fun h => absurd rfl h)
  exact kk x0 x1 x2' x3 x4 x5 x6 x7 x8 x9 x10 x11 x12 x13 x14 g' H locs Rr' hP hD hS
set_option maxHeartbeats 8000000 in
set_option maxRecDepth 100000 in
theorem law_look (hC : CallFix p m c cL_law 4 s args wsL_law RL) (hE : EV G s) (hZ : SV sk sv (fun q : Nat => s.heap.size ≤ q) s s.heap) (hX : va_X b L xs s s.heap) (hbl : b < s.heap.size) (hi : i + 6 ≤ L) (hL : L ≤ 384) (Rr : Rel x0 x1 x3 x4 x5 x6 x8 x11 x12 x13 x14 g) (hP : va_P G.1 vwCl (WL G ad ado ad7 x0 x1 x2 x3 x4 x5 x6 x7 x8 x9 x10 x11 x12 x13 x14 g) H) (hD : va_D (fun q : Nat => s.heap.size ≤ q) (WL G ad ado ad7 x0 x1 x2 x3 x4 x5 x6 x7 x8 x9 x10 x11 x12 x13 x14 g)) (hS : va_S (fun q : Nat => s.heap.size ≤ q) s.heap H locs) (hl : lv_has ls 4 [(0, .ref b), (1, .ref (ad 0)), (2, .ref (ad7 0)), (3, .int (nI i))]) (kk : GoOn p l e s m args below meth c G ad ado ad7 ls Q) : W p l e room_1 s m args below meth c H locs 100 2657 Q (F0 m 1469 ls []) := by
  have hA : ∀ q : Nat, s.heap.size ≤ q → (fun q : Nat => s.heap.size ≤ q) q := fun _ h => h
  have hbA : ¬ (fun q : Nat => s.heap.size ≤ q) b := Nat.not_le.mpr hbl
  obtain ⟨hx, hb, hml, hown, hts⟩ := id hC
  have hT : va_K G.1 vwCl (tyL G) s := hE.1
  have hn1 : vp_in (nI i + nI 1) L := by rw [nI_add]; exact vp_in_nI (by omega) (by omega)
  have hn2 : vp_in (nI i + nI 2) L := by rw [nI_add]; exact vp_in_nI (by omega) (by omega)
  obtain ⟨r, x0', x2', g', e1, e2, Rr'⟩ := op_look Rr x2 (xs (nI i + nI 1).toNatClampNeg) (xs (nI i + nI 2).toNatClampNeg)
  refine lv_aload_n hx hb dL_law_1469 rfl (lv_at hl 1 rfl) ?_
  refine lv_aload_n hx hb dL_law_1470 rfl (lv_at hl 0 rfl) ?_
  refine lv_iload_n hx hb dL_law_1471 rfl (lv_at hl 3 rfl) ?_
  refine lv_iconst (v := (nI 1)) hx hb dL_law_1472 (ic_1) ?_
  refine lv_iadd hx hb dL_law_1473 ?_
  refine va_sld hx hb hX hbl hbA hS hn1 dL_law_1474 ?_
  refine lv_aload_n hx hb dL_law_1475 rfl (lv_at hl 0 rfl) ?_
  refine lv_iload_n hx hb dL_law_1476 rfl (lv_at hl 3 rfl) ?_
  refine lv_iconst (v := (nI 2)) hx hb dL_law_1477 (ic_2) ?_
  refine lv_iadd hx hb dL_law_1478 ?_
  refine va_sld hx hb hX hbl hbA hS hn2 dL_law_1479 ?_
  refine cl_i_up (Wd := (WL G ad ado ad7 x0 x1 x2 x3 x4 x5 x6 x7 x8 x9 x10 x11 x12 x13 x14 g)) (Wc := ((wX6 G ad ado x0) ++ ((wX0 G (ado 1) x1) ++ ((wX0 G (ado 2) x2) ++ (wX3 G (ado 8) x8))))) (W' := ((wX6 G ad ado x0') ++ ((wX0 G (ado 1) x1) ++ ((wX0 G (ado 2) x2') ++ (wX3 G (ado 8) x8))))) (W2 := (WL G ad ado ad7 x0' x1 x2' x3 x4 x5 x6 x7 x8 x9 x10 x11 x12 x13 x14 g)) (Wr := ((wX0 G (ado 3) x3) ++ ((wX0 G (ado 4) x4) ++ ((wX4 G (ado 5) x5) ++ ((wX5 G (ado 6) (ado 7 0) x6) ++ ((wX0 G (ado 7) x7) ++ ((wX1 G (ado 9) (ado 10 0) x9) ++ ((wX0 G (ado 10) x10) ++ ((wX2 G (ado 11) x11) ++ ((wX2 G (ado 12) x12) ++ ((wX2 G (ado 13) x13) ++ ((wX2 G (ado 14) x14) ++ (wX7 G ad7 g))))))))))))) [0, 1, 2, 3, 4, 5, 6, 7, 8, 9, 10, 11, 12, 13, 14, 15, 16, 17, 18, 19, 20, 21, 22, 23, 24, 25, 62, 63, 64, 65, 66] [26, 27, 28, 29, 30, 31, 32, 33, 34, 35, 36, 37, 38, 39, 40, 41, 42, 43, 44, 45, 46, 47, 48, 49, 50, 51, 52, 53, 54, 55, 56, 57, 58, 59, 60, 61, 67, 68, 69, 70, 71, 72, 73, 74, 75, 76, 77, 78, 79, 80, 81, 82, 83, 84, 85, 86, 87, 88, 89, 90, 91, 92, 93, 94, 95, 96, 97, 98, 99] rfl rfl rfl rfl rfl rfl (va_runV (As := [.int (xs (nI i + nI 1).toNatClampNeg), .int (xs (nI i + nI 2).toNatClampNeg)]) (rest := []) hC (c_X6_look l G ad ado x0 x1 x2 x8 (xs (nI i + nI 1).toNatClampNeg) (xs (nI i + nI 2).toNatClampNeg) r x0' x2' e1 _) (cwV 2 hts gL_law_X6_look rfl rfl rfl (by decide +kernel) ⟨Nat.le_of_ble_eq_true rfl, Nat.le_of_ble_eq_true rfl⟩) ⟨Pc0_blind, va_recv hT hP (q0 := 0) (ci := 6) rfl rfl, fun U hU hW => Pc0_at (Wd := ((wX6 G ad ado x0) ++ ((wX0 G (ado 1) x1) ++ ((wX0 G (ado 2) x2) ++ (wX3 G (ado 8) x8))))) hE (hP.subm [0, 1, 2, 3, 4, 5, 6, 7, 8, 9, 10, 11, 12, 13, 14, 15, 16, 17, 18, 19, 20, 21, 22, 23, 24, 25, 62, 63, 64, 65, 66] rfl) (hD.sub [0, 1, 2, 3, 4, 5, 6, 7, 8, 9, 10, 11, 12, 13, 14, 15, 16, 17, 18, 19, 20, 21, 22, 23, 24, 25, 62, 63, 64, 65, 66] (by decide) rfl) hU hW⟩ rfl rfl hl.1 rfl (lv_room (Nat.le_of_ble_eq_true rfl)) dL_law_1480 ⟨Nat.le_of_ble_eq_true rfl, Nat.le_of_ble_eq_true rfl⟩) hS hA hP hD (fun H locs hP hD hS => ?_)
  refine lv_aload_n hx hb dL_law_1483 rfl (lv_at hl 2 rfl) ?_
  refine lv_aload_n hx hb dL_law_1484 rfl (lv_at hl 0 rfl) ?_
  refine lv_iload_n hx hb dL_law_1485 rfl (lv_at hl 3 rfl) ?_
  refine lv_iconst (v := (nI 1)) hx hb dL_law_1486 (ic_1) ?_
  refine lv_iadd hx hb dL_law_1487 ?_
  refine va_sld hx hb hX hbl hbA hS hn1 dL_law_1488 ?_
  refine lv_aload_n hx hb dL_law_1489 rfl (lv_at hl 0 rfl) ?_
  refine lv_iload_n hx hb dL_law_1490 rfl (lv_at hl 3 rfl) ?_
  refine lv_iconst (v := (nI 2)) hx hb dL_law_1491 (ic_2) ?_
  refine lv_iadd hx hb dL_law_1492 ?_
  refine va_sld hx hb hX hbl hbA hS hn2 dL_law_1493 ?_
  refine cl_i_up (Wd := (WL G ad ado ad7 x0' x1 x2' x3 x4 x5 x6 x7 x8 x9 x10 x11 x12 x13 x14 g)) (Wc := (wX7 G ad7 g)) (W' := (wX7 G ad7 g')) (W2 := (WL G ad ado ad7 x0' x1 x2' x3 x4 x5 x6 x7 x8 x9 x10 x11 x12 x13 x14 g')) (Wr := ((wX6 G ad ado x0') ++ ((wX0 G (ado 1) x1) ++ ((wX0 G (ado 2) x2') ++ ((wX0 G (ado 3) x3) ++ ((wX0 G (ado 4) x4) ++ ((wX4 G (ado 5) x5) ++ ((wX5 G (ado 6) (ado 7 0) x6) ++ ((wX0 G (ado 7) x7) ++ ((wX3 G (ado 8) x8) ++ ((wX1 G (ado 9) (ado 10 0) x9) ++ ((wX0 G (ado 10) x10) ++ ((wX2 G (ado 11) x11) ++ ((wX2 G (ado 12) x12) ++ ((wX2 G (ado 13) x13) ++ (wX2 G (ado 14) x14)))))))))))))))) [88, 89, 90, 91, 92, 93, 94, 95, 96, 97, 98, 99] [0, 1, 2, 3, 4, 5, 6, 7, 8, 9, 10, 11, 12, 13, 14, 15, 16, 17, 18, 19, 20, 21, 22, 23, 24, 25, 26, 27, 28, 29, 30, 31, 32, 33, 34, 35, 36, 37, 38, 39, 40, 41, 42, 43, 44, 45, 46, 47, 48, 49, 50, 51, 52, 53, 54, 55, 56, 57, 58, 59, 60, 61, 62, 63, 64, 65, 66, 67, 68, 69, 70, 71, 72, 73, 74, 75, 76, 77, 78, 79, 80, 81, 82, 83, 84, 85, 86, 87] rfl rfl rfl rfl rfl rfl (va_runV (As := [.int (xs (nI i + nI 1).toNatClampNeg), .int (xs (nI i + nI 2).toNatClampNeg)]) (rest := [.int r]) hC (c_X7_look l G ad7 g (xs (nI i + nI 1).toNatClampNeg) (xs (nI i + nI 2).toNatClampNeg) r g' e2 _) (cwV 2 hts gL_law_X7_look rfl rfl rfl (by decide +kernel) ⟨Nat.le_of_ble_eq_true rfl, Nat.le_of_ble_eq_true rfl⟩) ⟨Pc0_blind, va_recv hT hP (q0 := 88) (ci := 7) rfl rfl, fun U hU hW => Pc0_at (Wd := (wX7 G ad7 g)) hE (hP.subm [88, 89, 90, 91, 92, 93, 94, 95, 96, 97, 98, 99] rfl) (hD.sub [88, 89, 90, 91, 92, 93, 94, 95, 96, 97, 98, 99] (by decide) rfl) hU hW⟩ rfl rfl hl.1 rfl (lv_room (Nat.le_of_ble_eq_true rfl)) dL_law_1494 ⟨Nat.le_of_ble_eq_true rfl, Nat.le_of_ble_eq_true rfl⟩) hS hA hP hD (fun H locs hP hD hS => ?_)
  refine lv_icmp_eq (tgt := 1766) hx hb dL_law_1497 (by decide) (fun _ => ?_) (fun h => absurd rfl h)
  exact kk x0' x1 x2' x3 x4 x5 x6 x7 x8 x9 x10 x11 x12 x13 x14 g' H locs Rr' hP hD hS
set_option maxHeartbeats 8000000 in
set_option maxRecDepth 100000 in
theorem law_drift (hC : CallFix p m c cL_law 4 s args wsL_law RL) (hE : EV G s) (hZ : SV sk sv (fun q : Nat => s.heap.size ≤ q) s s.heap) (hX : va_X b L xs s s.heap) (hbl : b < s.heap.size) (hi : i + 6 ≤ L) (hL : L ≤ 384) (Rr : Rel x0 x1 x3 x4 x5 x6 x8 x11 x12 x13 x14 g) (hP : va_P G.1 vwCl (WL G ad ado ad7 x0 x1 x2 x3 x4 x5 x6 x7 x8 x9 x10 x11 x12 x13 x14 g) H) (hD : va_D (fun q : Nat => s.heap.size ≤ q) (WL G ad ado ad7 x0 x1 x2 x3 x4 x5 x6 x7 x8 x9 x10 x11 x12 x13 x14 g)) (hS : va_S (fun q : Nat => s.heap.size ≤ q) s.heap H locs) (hl : lv_has ls 4 [(0, .ref b), (1, .ref (ad 0)), (2, .ref (ad7 0)), (3, .int (nI i))]) (kk : GoOn p l e s m args below meth c G ad ado ad7 ls Q) : W p l e room_1 s m args below meth c H locs 100 2657 Q (F0 m 1502 ls []) := by
  have hA : ∀ q : Nat, s.heap.size ≤ q → (fun q : Nat => s.heap.size ≤ q) q := fun _ h => h
  have hbA : ¬ (fun q : Nat => s.heap.size ≤ q) b := Nat.not_le.mpr hbl
  obtain ⟨hx, hb, hml, hown, hts⟩ := id hC
  have hT : va_K G.1 vwCl (tyL G) s := hE.1
  have hn1 : vp_in (nI i + nI 1) L := by rw [nI_add]; exact vp_in_nI (by omega) (by omega)
  have hn2 : vp_in (nI i + nI 2) L := by rw [nI_add]; exact vp_in_nI (by omega) (by omega)
  have hn3 : vp_in (nI i + nI 3) L := by rw [nI_add]; exact vp_in_nI (by omega) (by omega)
  obtain ⟨r, x2', g', e1, e2, Rr'⟩ := op_drift Rr x2 (xs (nI i + nI 1).toNatClampNeg) (xs (nI i + nI 2).toNatClampNeg) (xs (nI i + nI 3).toNatClampNeg)
  refine lv_aload_n hx hb dL_law_1502 rfl (lv_at hl 1 rfl) ?_
  refine lv_aload_n hx hb dL_law_1503 rfl (lv_at hl 0 rfl) ?_
  refine lv_iload_n hx hb dL_law_1504 rfl (lv_at hl 3 rfl) ?_
  refine lv_iconst (v := (nI 1)) hx hb dL_law_1505 (ic_1) ?_
  refine lv_iadd hx hb dL_law_1506 ?_
  refine va_sld hx hb hX hbl hbA hS hn1 dL_law_1507 ?_
  refine lv_aload_n hx hb dL_law_1508 rfl (lv_at hl 0 rfl) ?_
  refine lv_iload_n hx hb dL_law_1509 rfl (lv_at hl 3 rfl) ?_
  refine lv_iconst (v := (nI 2)) hx hb dL_law_1510 (ic_2) ?_
  refine lv_iadd hx hb dL_law_1511 ?_
  refine va_sld hx hb hX hbl hbA hS hn2 dL_law_1512 ?_
  refine lv_aload_n hx hb dL_law_1513 rfl (lv_at hl 0 rfl) ?_
  refine lv_iload_n hx hb dL_law_1514 rfl (lv_at hl 3 rfl) ?_
  refine lv_iconst (v := (nI 3)) hx hb dL_law_1515 (ic_3) ?_
  refine lv_iadd hx hb dL_law_1516 ?_
  refine va_sld hx hb hX hbl hbA hS hn3 dL_law_1517 ?_
  refine cl_i_up (Wd := (WL G ad ado ad7 x0 x1 x2 x3 x4 x5 x6 x7 x8 x9 x10 x11 x12 x13 x14 g)) (Wc := ((wX6 G ad ado x0) ++ ((wX0 G (ado 1) x1) ++ (wX0 G (ado 2) x2)))) (W' := ((wX6 G ad ado x0) ++ ((wX0 G (ado 1) x1) ++ (wX0 G (ado 2) x2')))) (W2 := (WL G ad ado ad7 x0 x1 x2' x3 x4 x5 x6 x7 x8 x9 x10 x11 x12 x13 x14 g)) (Wr := ((wX0 G (ado 3) x3) ++ ((wX0 G (ado 4) x4) ++ ((wX4 G (ado 5) x5) ++ ((wX5 G (ado 6) (ado 7 0) x6) ++ ((wX0 G (ado 7) x7) ++ ((wX3 G (ado 8) x8) ++ ((wX1 G (ado 9) (ado 10 0) x9) ++ ((wX0 G (ado 10) x10) ++ ((wX2 G (ado 11) x11) ++ ((wX2 G (ado 12) x12) ++ ((wX2 G (ado 13) x13) ++ ((wX2 G (ado 14) x14) ++ (wX7 G ad7 g)))))))))))))) [0, 1, 2, 3, 4, 5, 6, 7, 8, 9, 10, 11, 12, 13, 14, 15, 16, 17, 18, 19, 20, 21, 22, 23, 24, 25] [26, 27, 28, 29, 30, 31, 32, 33, 34, 35, 36, 37, 38, 39, 40, 41, 42, 43, 44, 45, 46, 47, 48, 49, 50, 51, 52, 53, 54, 55, 56, 57, 58, 59, 60, 61, 62, 63, 64, 65, 66, 67, 68, 69, 70, 71, 72, 73, 74, 75, 76, 77, 78, 79, 80, 81, 82, 83, 84, 85, 86, 87, 88, 89, 90, 91, 92, 93, 94, 95, 96, 97, 98, 99] rfl rfl rfl rfl rfl rfl (va_runV (As := [.int (xs (nI i + nI 1).toNatClampNeg), .int (xs (nI i + nI 2).toNatClampNeg), .int (xs (nI i + nI 3).toNatClampNeg)]) (rest := []) hC (c_X6_drift l G ad ado x0 x1 x2 (xs (nI i + nI 1).toNatClampNeg) (xs (nI i + nI 2).toNatClampNeg) (xs (nI i + nI 3).toNatClampNeg) r x2' e1 _) (cwV 3 hts gL_law_X6_drift rfl rfl rfl (by decide +kernel) ⟨Nat.le_of_ble_eq_true rfl, Nat.le_of_ble_eq_true rfl⟩) ⟨Pc0_blind, va_recv hT hP (q0 := 0) (ci := 6) rfl rfl, fun U hU hW => Pc0_at (Wd := ((wX6 G ad ado x0) ++ ((wX0 G (ado 1) x1) ++ (wX0 G (ado 2) x2)))) hE (hP.subm [0, 1, 2, 3, 4, 5, 6, 7, 8, 9, 10, 11, 12, 13, 14, 15, 16, 17, 18, 19, 20, 21, 22, 23, 24, 25] rfl) (hD.sub [0, 1, 2, 3, 4, 5, 6, 7, 8, 9, 10, 11, 12, 13, 14, 15, 16, 17, 18, 19, 20, 21, 22, 23, 24, 25] (by decide) rfl) hU hW⟩ rfl rfl hl.1 rfl (lv_room (Nat.le_of_ble_eq_true rfl)) dL_law_1518 ⟨Nat.le_of_ble_eq_true rfl, Nat.le_of_ble_eq_true rfl⟩) hS hA hP hD (fun H locs hP hD hS => ?_)
  refine lv_aload_n hx hb dL_law_1521 rfl (lv_at hl 2 rfl) ?_
  refine lv_aload_n hx hb dL_law_1522 rfl (lv_at hl 0 rfl) ?_
  refine lv_iload_n hx hb dL_law_1523 rfl (lv_at hl 3 rfl) ?_
  refine lv_iconst (v := (nI 1)) hx hb dL_law_1524 (ic_1) ?_
  refine lv_iadd hx hb dL_law_1525 ?_
  refine va_sld hx hb hX hbl hbA hS hn1 dL_law_1526 ?_
  refine lv_aload_n hx hb dL_law_1527 rfl (lv_at hl 0 rfl) ?_
  refine lv_iload_n hx hb dL_law_1528 rfl (lv_at hl 3 rfl) ?_
  refine lv_iconst (v := (nI 2)) hx hb dL_law_1529 (ic_2) ?_
  refine lv_iadd hx hb dL_law_1530 ?_
  refine va_sld hx hb hX hbl hbA hS hn2 dL_law_1531 ?_
  refine lv_aload_n hx hb dL_law_1532 rfl (lv_at hl 0 rfl) ?_
  refine lv_iload_n hx hb dL_law_1533 rfl (lv_at hl 3 rfl) ?_
  refine lv_iconst (v := (nI 3)) hx hb dL_law_1534 (ic_3) ?_
  refine lv_iadd hx hb dL_law_1535 ?_
  refine va_sld hx hb hX hbl hbA hS hn3 dL_law_1536 ?_
  refine cl_i_up (Wd := (WL G ad ado ad7 x0 x1 x2' x3 x4 x5 x6 x7 x8 x9 x10 x11 x12 x13 x14 g)) (Wc := (wX7 G ad7 g)) (W' := (wX7 G ad7 g')) (W2 := (WL G ad ado ad7 x0 x1 x2' x3 x4 x5 x6 x7 x8 x9 x10 x11 x12 x13 x14 g')) (Wr := ((wX6 G ad ado x0) ++ ((wX0 G (ado 1) x1) ++ ((wX0 G (ado 2) x2') ++ ((wX0 G (ado 3) x3) ++ ((wX0 G (ado 4) x4) ++ ((wX4 G (ado 5) x5) ++ ((wX5 G (ado 6) (ado 7 0) x6) ++ ((wX0 G (ado 7) x7) ++ ((wX3 G (ado 8) x8) ++ ((wX1 G (ado 9) (ado 10 0) x9) ++ ((wX0 G (ado 10) x10) ++ ((wX2 G (ado 11) x11) ++ ((wX2 G (ado 12) x12) ++ ((wX2 G (ado 13) x13) ++ (wX2 G (ado 14) x14)))))))))))))))) [88, 89, 90, 91, 92, 93, 94, 95, 96, 97, 98, 99] [0, 1, 2, 3, 4, 5, 6, 7, 8, 9, 10, 11, 12, 13, 14, 15, 16, 17, 18, 19, 20, 21, 22, 23, 24, 25, 26, 27, 28, 29, 30, 31, 32, 33, 34, 35, 36, 37, 38, 39, 40, 41, 42, 43, 44, 45, 46, 47, 48, 49, 50, 51, 52, 53, 54, 55, 56, 57, 58, 59, 60, 61, 62, 63, 64, 65, 66, 67, 68, 69, 70, 71, 72, 73, 74, 75, 76, 77, 78, 79, 80, 81, 82, 83, 84, 85, 86, 87] rfl rfl rfl rfl rfl rfl (va_runV (As := [.int (xs (nI i + nI 1).toNatClampNeg), .int (xs (nI i + nI 2).toNatClampNeg), .int (xs (nI i + nI 3).toNatClampNeg)]) (rest := [.int r]) hC (c_X7_drift l G ad7 g (xs (nI i + nI 1).toNatClampNeg) (xs (nI i + nI 2).toNatClampNeg) (xs (nI i + nI 3).toNatClampNeg) r g' e2 _) (cwV 3 hts gL_law_X7_drift rfl rfl rfl (by decide +kernel) ⟨Nat.le_of_ble_eq_true rfl, Nat.le_of_ble_eq_true rfl⟩) ⟨Pc0_blind, va_recv hT hP (q0 := 88) (ci := 7) rfl rfl, fun U hU hW => Pc0_at (Wd := (wX7 G ad7 g)) hE (hP.subm [88, 89, 90, 91, 92, 93, 94, 95, 96, 97, 98, 99] rfl) (hD.sub [88, 89, 90, 91, 92, 93, 94, 95, 96, 97, 98, 99] (by decide) rfl) hU hW⟩ rfl rfl hl.1 rfl (lv_room (Nat.le_of_ble_eq_true rfl)) dL_law_1537 ⟨Nat.le_of_ble_eq_true rfl, Nat.le_of_ble_eq_true rfl⟩) hS hA hP hD (fun H locs hP hD hS => ?_)
  refine lv_icmp_eq (tgt := 1766) hx hb dL_law_1540 (by decide) (fun _ => ?_) (fun h => absurd rfl h)
  exact kk x0 x1 x2' x3 x4 x5 x6 x7 x8 x9 x10 x11 x12 x13 x14 g' H locs Rr' hP hD hS
set_option maxHeartbeats 8000000 in
set_option maxRecDepth 100000 in
theorem law_keep (hC : CallFix p m c cL_law 4 s args wsL_law RL) (hE : EV G s) (hZ : SV sk sv (fun q : Nat => s.heap.size ≤ q) s s.heap) (hX : va_X b L xs s s.heap) (hbl : b < s.heap.size) (hi : i + 6 ≤ L) (hL : L ≤ 384) (Rr : Rel x0 x1 x3 x4 x5 x6 x8 x11 x12 x13 x14 g) (hP : va_P G.1 vwCl (WL G ad ado ad7 x0 x1 x2 x3 x4 x5 x6 x7 x8 x9 x10 x11 x12 x13 x14 g) H) (hD : va_D (fun q : Nat => s.heap.size ≤ q) (WL G ad ado ad7 x0 x1 x2 x3 x4 x5 x6 x7 x8 x9 x10 x11 x12 x13 x14 g)) (hS : va_S (fun q : Nat => s.heap.size ≤ q) s.heap H locs) (hl : lv_has ls 4 [(0, .ref b), (1, .ref (ad 0)), (2, .ref (ad7 0)), (3, .int (nI i))]) (kk : GoOn p l e s m args below meth c G ad ado ad7 ls Q) : W p l e room_1 s m args below meth c H locs 100 2657 Q (F0 m 1545 ls []) := by
  have hA : ∀ q : Nat, s.heap.size ≤ q → (fun q : Nat => s.heap.size ≤ q) q := fun _ h => h
  have hbA : ¬ (fun q : Nat => s.heap.size ≤ q) b := Nat.not_le.mpr hbl
  obtain ⟨hx, hb, hml, hown, hts⟩ := id hC
  have hT : va_K G.1 vwCl (tyL G) s := hE.1
  have hn1 : vp_in (nI i + nI 1) L := by rw [nI_add]; exact vp_in_nI (by omega) (by omega)
  obtain ⟨r, x0', x3', x4', g', e1, e2, Rr'⟩ := op_keep Rr (xs (nI i + nI 1).toNatClampNeg)
  refine lv_aload_n hx hb dL_law_1545 rfl (lv_at hl 1 rfl) ?_
  refine lv_aload_n hx hb dL_law_1546 rfl (lv_at hl 0 rfl) ?_
  refine lv_iload_n hx hb dL_law_1547 rfl (lv_at hl 3 rfl) ?_
  refine lv_iconst (v := (nI 1)) hx hb dL_law_1548 (ic_1) ?_
  refine lv_iadd hx hb dL_law_1549 ?_
  refine va_sld hx hb hX hbl hbA hS hn1 dL_law_1550 ?_
  refine cl_i_up (Wd := (WL G ad ado ad7 x0 x1 x2 x3 x4 x5 x6 x7 x8 x9 x10 x11 x12 x13 x14 g)) (Wc := ((wX6 G ad ado x0) ++ ((wX0 G (ado 1) x1) ++ ((wX0 G (ado 3) x3) ++ (wX0 G (ado 4) x4))))) (W' := ((wX6 G ad ado x0') ++ ((wX0 G (ado 1) x1) ++ ((wX0 G (ado 3) x3') ++ (wX0 G (ado 4) x4'))))) (W2 := (WL G ad ado ad7 x0' x1 x2 x3' x4' x5 x6 x7 x8 x9 x10 x11 x12 x13 x14 g)) (Wr := ((wX0 G (ado 2) x2) ++ ((wX4 G (ado 5) x5) ++ ((wX5 G (ado 6) (ado 7 0) x6) ++ ((wX0 G (ado 7) x7) ++ ((wX3 G (ado 8) x8) ++ ((wX1 G (ado 9) (ado 10 0) x9) ++ ((wX0 G (ado 10) x10) ++ ((wX2 G (ado 11) x11) ++ ((wX2 G (ado 12) x12) ++ ((wX2 G (ado 13) x13) ++ ((wX2 G (ado 14) x14) ++ (wX7 G ad7 g))))))))))))) [0, 1, 2, 3, 4, 5, 6, 7, 8, 9, 10, 11, 12, 13, 14, 26, 27, 28, 29, 30, 31, 32, 33, 34, 35, 36, 37, 38, 39, 40, 41, 42, 43, 44, 45, 46, 47] [15, 16, 17, 18, 19, 20, 21, 22, 23, 24, 25, 48, 49, 50, 51, 52, 53, 54, 55, 56, 57, 58, 59, 60, 61, 62, 63, 64, 65, 66, 67, 68, 69, 70, 71, 72, 73, 74, 75, 76, 77, 78, 79, 80, 81, 82, 83, 84, 85, 86, 87, 88, 89, 90, 91, 92, 93, 94, 95, 96, 97, 98, 99] rfl rfl rfl rfl rfl rfl (va_runV (As := [.int (xs (nI i + nI 1).toNatClampNeg)]) (rest := []) hC (c_X6_keep l G ad ado x0 x1 x3 x4 (xs (nI i + nI 1).toNatClampNeg) r x0' x3' x4' e1 _) (cwV 1 hts gL_law_X6_keep rfl rfl rfl (by decide +kernel) ⟨Nat.le_of_ble_eq_true rfl, Nat.le_of_ble_eq_true rfl⟩) ⟨Pc0_blind, va_recv hT hP (q0 := 0) (ci := 6) rfl rfl, fun U hU hW => Pc0_at (Wd := ((wX6 G ad ado x0) ++ ((wX0 G (ado 1) x1) ++ ((wX0 G (ado 3) x3) ++ (wX0 G (ado 4) x4))))) hE (hP.subm [0, 1, 2, 3, 4, 5, 6, 7, 8, 9, 10, 11, 12, 13, 14, 26, 27, 28, 29, 30, 31, 32, 33, 34, 35, 36, 37, 38, 39, 40, 41, 42, 43, 44, 45, 46, 47] rfl) (hD.sub [0, 1, 2, 3, 4, 5, 6, 7, 8, 9, 10, 11, 12, 13, 14, 26, 27, 28, 29, 30, 31, 32, 33, 34, 35, 36, 37, 38, 39, 40, 41, 42, 43, 44, 45, 46, 47] (by decide) rfl) hU hW⟩ rfl rfl hl.1 rfl (lv_room (Nat.le_of_ble_eq_true rfl)) dL_law_1551 ⟨Nat.le_of_ble_eq_true rfl, Nat.le_of_ble_eq_true rfl⟩) hS hA hP hD (fun H locs hP hD hS => ?_)
  refine lv_aload_n hx hb dL_law_1554 rfl (lv_at hl 2 rfl) ?_
  refine lv_aload_n hx hb dL_law_1555 rfl (lv_at hl 0 rfl) ?_
  refine lv_iload_n hx hb dL_law_1556 rfl (lv_at hl 3 rfl) ?_
  refine lv_iconst (v := (nI 1)) hx hb dL_law_1557 (ic_1) ?_
  refine lv_iadd hx hb dL_law_1558 ?_
  refine va_sld hx hb hX hbl hbA hS hn1 dL_law_1559 ?_
  refine cl_i_up (Wd := (WL G ad ado ad7 x0' x1 x2 x3' x4' x5 x6 x7 x8 x9 x10 x11 x12 x13 x14 g)) (Wc := (wX7 G ad7 g)) (W' := (wX7 G ad7 g')) (W2 := (WL G ad ado ad7 x0' x1 x2 x3' x4' x5 x6 x7 x8 x9 x10 x11 x12 x13 x14 g')) (Wr := ((wX6 G ad ado x0') ++ ((wX0 G (ado 1) x1) ++ ((wX0 G (ado 2) x2) ++ ((wX0 G (ado 3) x3') ++ ((wX0 G (ado 4) x4') ++ ((wX4 G (ado 5) x5) ++ ((wX5 G (ado 6) (ado 7 0) x6) ++ ((wX0 G (ado 7) x7) ++ ((wX3 G (ado 8) x8) ++ ((wX1 G (ado 9) (ado 10 0) x9) ++ ((wX0 G (ado 10) x10) ++ ((wX2 G (ado 11) x11) ++ ((wX2 G (ado 12) x12) ++ ((wX2 G (ado 13) x13) ++ (wX2 G (ado 14) x14)))))))))))))))) [88, 89, 90, 91, 92, 93, 94, 95, 96, 97, 98, 99] [0, 1, 2, 3, 4, 5, 6, 7, 8, 9, 10, 11, 12, 13, 14, 15, 16, 17, 18, 19, 20, 21, 22, 23, 24, 25, 26, 27, 28, 29, 30, 31, 32, 33, 34, 35, 36, 37, 38, 39, 40, 41, 42, 43, 44, 45, 46, 47, 48, 49, 50, 51, 52, 53, 54, 55, 56, 57, 58, 59, 60, 61, 62, 63, 64, 65, 66, 67, 68, 69, 70, 71, 72, 73, 74, 75, 76, 77, 78, 79, 80, 81, 82, 83, 84, 85, 86, 87] rfl rfl rfl rfl rfl rfl (va_runV (As := [.int (xs (nI i + nI 1).toNatClampNeg)]) (rest := [.int r]) hC (c_X7_keep l G ad7 g (xs (nI i + nI 1).toNatClampNeg) r g' e2 _) (cwV 1 hts gL_law_X7_keep rfl rfl rfl (by decide +kernel) ⟨Nat.le_of_ble_eq_true rfl, Nat.le_of_ble_eq_true rfl⟩) ⟨Pc0_blind, va_recv hT hP (q0 := 88) (ci := 7) rfl rfl, fun U hU hW => Pc0_at (Wd := (wX7 G ad7 g)) hE (hP.subm [88, 89, 90, 91, 92, 93, 94, 95, 96, 97, 98, 99] rfl) (hD.sub [88, 89, 90, 91, 92, 93, 94, 95, 96, 97, 98, 99] (by decide) rfl) hU hW⟩ rfl rfl hl.1 rfl (lv_room (Nat.le_of_ble_eq_true rfl)) dL_law_1560 ⟨Nat.le_of_ble_eq_true rfl, Nat.le_of_ble_eq_true rfl⟩) hS hA hP hD (fun H locs hP hD hS => ?_)
  refine lv_icmp_eq (tgt := 1766) hx hb dL_law_1563 (by decide) (fun _ => ?_) (fun h => absurd rfl h)
  exact kk x0' x1 x2 x3' x4' x5 x6 x7 x8 x9 x10 x11 x12 x13 x14 g' H locs Rr' hP hD hS
set_option maxHeartbeats 8000000 in
set_option maxRecDepth 100000 in
theorem law_back (hC : CallFix p m c cL_law 4 s args wsL_law RL) (hE : EV G s) (hZ : SV sk sv (fun q : Nat => s.heap.size ≤ q) s s.heap) (hX : va_X b L xs s s.heap) (hbl : b < s.heap.size) (hi : i + 6 ≤ L) (hL : L ≤ 384) (Rr : Rel x0 x1 x3 x4 x5 x6 x8 x11 x12 x13 x14 g) (hP : va_P G.1 vwCl (WL G ad ado ad7 x0 x1 x2 x3 x4 x5 x6 x7 x8 x9 x10 x11 x12 x13 x14 g) H) (hD : va_D (fun q : Nat => s.heap.size ≤ q) (WL G ad ado ad7 x0 x1 x2 x3 x4 x5 x6 x7 x8 x9 x10 x11 x12 x13 x14 g)) (hS : va_S (fun q : Nat => s.heap.size ≤ q) s.heap H locs) (hl : lv_has ls 4 [(0, .ref b), (1, .ref (ad 0)), (2, .ref (ad7 0)), (3, .int (nI i))]) (kk : GoOn p l e s m args below meth c G ad ado ad7 ls Q) : W p l e room_1 s m args below meth c H locs 100 2657 Q (F0 m 1568 ls []) := by
  have hA : ∀ q : Nat, s.heap.size ≤ q → (fun q : Nat => s.heap.size ≤ q) q := fun _ h => h
  have hbA : ¬ (fun q : Nat => s.heap.size ≤ q) b := Nat.not_le.mpr hbl
  obtain ⟨hx, hb, hml, hown, hts⟩ := id hC
  have hT : va_K G.1 vwCl (tyL G) s := hE.1
  have hn1 : vp_in (nI i + nI 1) L := by rw [nI_add]; exact vp_in_nI (by omega) (by omega)
  obtain ⟨r, x1', g', e1, e2, Rr'⟩ := op_back Rr (xs (nI i + nI 1).toNatClampNeg)
  refine lv_aload_n hx hb dL_law_1568 rfl (lv_at hl 1 rfl) ?_
  refine lv_aload_n hx hb dL_law_1569 rfl (lv_at hl 0 rfl) ?_
  refine lv_iload_n hx hb dL_law_1570 rfl (lv_at hl 3 rfl) ?_
  refine lv_iconst (v := (nI 1)) hx hb dL_law_1571 (ic_1) ?_
  refine lv_iadd hx hb dL_law_1572 ?_
  refine va_sld hx hb hX hbl hbA hS hn1 dL_law_1573 ?_
  refine cl_i_up (Wd := (WL G ad ado ad7 x0 x1 x2 x3 x4 x5 x6 x7 x8 x9 x10 x11 x12 x13 x14 g)) (Wc := ((wX6 G ad ado x0) ++ ((wX0 G (ado 1) x1) ++ ((wX0 G (ado 3) x3) ++ (wX0 G (ado 4) x4))))) (W' := ((wX6 G ad ado x0) ++ ((wX0 G (ado 1) x1') ++ ((wX0 G (ado 3) x3) ++ (wX0 G (ado 4) x4))))) (W2 := (WL G ad ado ad7 x0 x1' x2 x3 x4 x5 x6 x7 x8 x9 x10 x11 x12 x13 x14 g)) (Wr := ((wX0 G (ado 2) x2) ++ ((wX4 G (ado 5) x5) ++ ((wX5 G (ado 6) (ado 7 0) x6) ++ ((wX0 G (ado 7) x7) ++ ((wX3 G (ado 8) x8) ++ ((wX1 G (ado 9) (ado 10 0) x9) ++ ((wX0 G (ado 10) x10) ++ ((wX2 G (ado 11) x11) ++ ((wX2 G (ado 12) x12) ++ ((wX2 G (ado 13) x13) ++ ((wX2 G (ado 14) x14) ++ (wX7 G ad7 g))))))))))))) [0, 1, 2, 3, 4, 5, 6, 7, 8, 9, 10, 11, 12, 13, 14, 26, 27, 28, 29, 30, 31, 32, 33, 34, 35, 36, 37, 38, 39, 40, 41, 42, 43, 44, 45, 46, 47] [15, 16, 17, 18, 19, 20, 21, 22, 23, 24, 25, 48, 49, 50, 51, 52, 53, 54, 55, 56, 57, 58, 59, 60, 61, 62, 63, 64, 65, 66, 67, 68, 69, 70, 71, 72, 73, 74, 75, 76, 77, 78, 79, 80, 81, 82, 83, 84, 85, 86, 87, 88, 89, 90, 91, 92, 93, 94, 95, 96, 97, 98, 99] rfl rfl rfl rfl rfl rfl (va_runV (As := [.int (xs (nI i + nI 1).toNatClampNeg)]) (rest := []) hC (c_X6_back l G ad ado x0 x1 x3 x4 (xs (nI i + nI 1).toNatClampNeg) r x1' e1 _) (cwV 1 hts gL_law_X6_back rfl rfl rfl (by decide +kernel) ⟨Nat.le_of_ble_eq_true rfl, Nat.le_of_ble_eq_true rfl⟩) ⟨Pc0_blind, va_recv hT hP (q0 := 0) (ci := 6) rfl rfl, fun U hU hW => Pc0_at (Wd := ((wX6 G ad ado x0) ++ ((wX0 G (ado 1) x1) ++ ((wX0 G (ado 3) x3) ++ (wX0 G (ado 4) x4))))) hE (hP.subm [0, 1, 2, 3, 4, 5, 6, 7, 8, 9, 10, 11, 12, 13, 14, 26, 27, 28, 29, 30, 31, 32, 33, 34, 35, 36, 37, 38, 39, 40, 41, 42, 43, 44, 45, 46, 47] rfl) (hD.sub [0, 1, 2, 3, 4, 5, 6, 7, 8, 9, 10, 11, 12, 13, 14, 26, 27, 28, 29, 30, 31, 32, 33, 34, 35, 36, 37, 38, 39, 40, 41, 42, 43, 44, 45, 46, 47] (by decide) rfl) hU hW⟩ rfl rfl hl.1 rfl (lv_room (Nat.le_of_ble_eq_true rfl)) dL_law_1574 ⟨Nat.le_of_ble_eq_true rfl, Nat.le_of_ble_eq_true rfl⟩) hS hA hP hD (fun H locs hP hD hS => ?_)
  refine lv_aload_n hx hb dL_law_1577 rfl (lv_at hl 2 rfl) ?_
  refine lv_aload_n hx hb dL_law_1578 rfl (lv_at hl 0 rfl) ?_
  refine lv_iload_n hx hb dL_law_1579 rfl (lv_at hl 3 rfl) ?_
  refine lv_iconst (v := (nI 1)) hx hb dL_law_1580 (ic_1) ?_
  refine lv_iadd hx hb dL_law_1581 ?_
  refine va_sld hx hb hX hbl hbA hS hn1 dL_law_1582 ?_
  refine cl_i_up (Wd := (WL G ad ado ad7 x0 x1' x2 x3 x4 x5 x6 x7 x8 x9 x10 x11 x12 x13 x14 g)) (Wc := (wX7 G ad7 g)) (W' := (wX7 G ad7 g')) (W2 := (WL G ad ado ad7 x0 x1' x2 x3 x4 x5 x6 x7 x8 x9 x10 x11 x12 x13 x14 g')) (Wr := ((wX6 G ad ado x0) ++ ((wX0 G (ado 1) x1') ++ ((wX0 G (ado 2) x2) ++ ((wX0 G (ado 3) x3) ++ ((wX0 G (ado 4) x4) ++ ((wX4 G (ado 5) x5) ++ ((wX5 G (ado 6) (ado 7 0) x6) ++ ((wX0 G (ado 7) x7) ++ ((wX3 G (ado 8) x8) ++ ((wX1 G (ado 9) (ado 10 0) x9) ++ ((wX0 G (ado 10) x10) ++ ((wX2 G (ado 11) x11) ++ ((wX2 G (ado 12) x12) ++ ((wX2 G (ado 13) x13) ++ (wX2 G (ado 14) x14)))))))))))))))) [88, 89, 90, 91, 92, 93, 94, 95, 96, 97, 98, 99] [0, 1, 2, 3, 4, 5, 6, 7, 8, 9, 10, 11, 12, 13, 14, 15, 16, 17, 18, 19, 20, 21, 22, 23, 24, 25, 26, 27, 28, 29, 30, 31, 32, 33, 34, 35, 36, 37, 38, 39, 40, 41, 42, 43, 44, 45, 46, 47, 48, 49, 50, 51, 52, 53, 54, 55, 56, 57, 58, 59, 60, 61, 62, 63, 64, 65, 66, 67, 68, 69, 70, 71, 72, 73, 74, 75, 76, 77, 78, 79, 80, 81, 82, 83, 84, 85, 86, 87] rfl rfl rfl rfl rfl rfl (va_runV (As := [.int (xs (nI i + nI 1).toNatClampNeg)]) (rest := [.int r]) hC (c_X7_back l G ad7 g (xs (nI i + nI 1).toNatClampNeg) r g' e2 _) (cwV 1 hts gL_law_X7_back rfl rfl rfl (by decide +kernel) ⟨Nat.le_of_ble_eq_true rfl, Nat.le_of_ble_eq_true rfl⟩) ⟨Pc0_blind, va_recv hT hP (q0 := 88) (ci := 7) rfl rfl, fun U hU hW => Pc0_at (Wd := (wX7 G ad7 g)) hE (hP.subm [88, 89, 90, 91, 92, 93, 94, 95, 96, 97, 98, 99] rfl) (hD.sub [88, 89, 90, 91, 92, 93, 94, 95, 96, 97, 98, 99] (by decide) rfl) hU hW⟩ rfl rfl hl.1 rfl (lv_room (Nat.le_of_ble_eq_true rfl)) dL_law_1583 ⟨Nat.le_of_ble_eq_true rfl, Nat.le_of_ble_eq_true rfl⟩) hS hA hP hD (fun H locs hP hD hS => ?_)
  refine lv_icmp_eq (tgt := 1766) hx hb dL_law_1586 (by decide) (fun _ => ?_) (fun h => absurd rfl h)
  exact kk x0 x1' x2 x3 x4 x5 x6 x7 x8 x9 x10 x11 x12 x13 x14 g' H locs Rr' hP hD hS
end LAWC

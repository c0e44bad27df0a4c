/-! ===== the law's loop: what each call does to both ===== -/
section LAWC
variable {p : Program} {l : Launch} {e : Env} {s : State} {m : MethodId} {args : Array Value} {below : List Frame} {meth : Method} {c : Code} {G : Gt} {ad ad7 : Nat → Nat} {ado : Nat → Nat → Nat} {sk sv : Nat → Nat} {b L i : Nat} {xs : Nat → Int32} {x0 x1 x2 x3 x4 x5 x6 x7 x8 x9 x10 x11 x12 x13 x14 g : Mem} {H : Heap} {locs : List Loc} {ls : Array Slot} {Q : State → Prop}
set_option maxHeartbeats 8000000 in
set_option maxRecDepth 100000 in
theorem law_goose (hC : CallFix p m c cL_law 4 s args wsL_law RL) (hE : EV G s) (hZ : SV sk sv (fun q : Nat => s.heap.size ≤ q) s s.heap) (hX : va_X b L xs s s.heap) (hbl : b < s.heap.size) (hi : i + 6 ≤ L) (hL : L ≤ 384) (Rr : Rel x0 x1 x3 x4 x5 x6 x8 x11 x12 x13 x14 g) (hP : va_P G.1 vwCl (WL G ad ado ad7 x0 x1 x2 x3 x4 x5 x6 x7 x8 x9 x10 x11 x12 x13 x14 g) H) (hD : va_D (fun q : Nat => s.heap.size ≤ q) (WL G ad ado ad7 x0 x1 x2 x3 x4 x5 x6 x7 x8 x9 x10 x11 x12 x13 x14 g)) (hS : va_S (fun q : Nat => s.heap.size ≤ q) s.heap H locs) (hl : lv_has ls 4 [(0, .ref b), (1, .ref (ad 0)), (2, .ref (ad7 0)), (3, .int (nI i))]) (kk : GoOn p l e s m args below meth c G ad ado ad7 ls Q) : W p l e room_1 s m args below meth c H locs 100 2657 Q (F0 m 323 ls []) := by
  have hA : ∀ q : Nat, s.heap.size ≤ q → (fun q : Nat => s.heap.size ≤ q) q := fun _ h => h
  have hbA : ¬ (fun q : Nat => s.heap.size ≤ q) b := Nat.not_le.mpr hbl
  obtain ⟨hx, hb, hml, hown, hts⟩ := id hC
  have hT : va_K G.1 vwCl (tyL G) s := hE.1
  have hn1 : vp_in (nI i + nI 1) L := by rw [nI_add]; exact vp_in_nI (by omega) (by omega)
  have hn2 : vp_in (nI i + nI 2) L := by rw [nI_add]; exact vp_in_nI (by omega) (by omega)
  obtain ⟨r, e1, e2⟩ := op_goose Rr (xs (nI i + nI 1).toNatClampNeg) (xs (nI i + nI 2).toNatClampNeg)
  refine lv_aload_n hx hb dL_law_323 rfl (lv_at hl 1 rfl) ?_
  refine lv_aload_n hx hb dL_law_324 rfl (lv_at hl 0 rfl) ?_
  refine lv_iload_n hx hb dL_law_325 rfl (lv_at hl 3 rfl) ?_
  refine lv_iconst (v := (nI 1)) hx hb dL_law_326 (ic_1) ?_
  refine lv_iadd hx hb dL_law_327 ?_
  refine va_sld hx hb hX hbl hbA hS hn1 dL_law_328 ?_
  refine lv_aload_n hx hb dL_law_329 rfl (lv_at hl 0 rfl) ?_
  refine lv_iload_n hx hb dL_law_330 rfl (lv_at hl 3 rfl) ?_
  refine lv_iconst (v := (nI 2)) hx hb dL_law_331 (ic_2) ?_
  refine lv_iadd hx hb dL_law_332 ?_
  refine va_sld hx hb hX hbl hbA hS hn2 dL_law_333 ?_
  have p1 : List.Perm (WL G ad ado ad7 x0 x1 x2 x3 x4 x5 x6 x7 x8 x9 x10 x11 x12 x13 x14 g) (((wX6 G ad ado x0) ++ (wX0 G (ado 1) x1)) ++ ((wX0 G (ado 2) x2) ++ ((wX0 G (ado 3) x3) ++ ((wX0 G (ado 4) x4) ++ ((wX4 G (ado 5) x5) ++ ((wX5 G (ado 6) (ado 7 0) x6) ++ ((wX0 G (ado 7) x7) ++ ((wX3 G (ado 8) x8) ++ ((wX1 G (ado 9) (ado 10 0) x9) ++ ((wX0 G (ado 10) x10) ++ ((wX2 G (ado 11) x11) ++ ((wX2 G (ado 12) x12) ++ ((wX2 G (ado 13) x13) ++ ((wX2 G (ado 14) x14) ++ (wX7 G ad7 g))))))))))))))) := catw_perm (as := [0, 1, 2, 3, 4, 5, 6, 7, 8, 9, 10, 11, 12, 13, 14, 15]) (is := [0, 1]) (rs := [2, 3, 4, 5, 6, 7, 8, 9, 10, 11, 12, 13, 14, 15]) (PC G ad ado ad7 (M16 x0 x1 x2 x3 x4 x5 x6 x7 x8 x9 x10 x11 x12 x13 x14 g)) (by decide)
  have p2 : List.Perm (WL G ad ado ad7 x0 x1 x2 x3 x4 x5 x6 x7 x8 x9 x10 x11 x12 x13 x14 g) (((wX6 G ad ado x0) ++ (wX0 G (ado 1) x1)) ++ ((wX0 G (ado 2) x2) ++ ((wX0 G (ado 3) x3) ++ ((wX0 G (ado 4) x4) ++ ((wX4 G (ado 5) x5) ++ ((wX5 G (ado 6) (ado 7 0) x6) ++ ((wX0 G (ado 7) x7) ++ ((wX3 G (ado 8) x8) ++ ((wX1 G (ado 9) (ado 10 0) x9) ++ ((wX0 G (ado 10) x10) ++ ((wX2 G (ado 11) x11) ++ ((wX2 G (ado 12) x12) ++ ((wX2 G (ado 13) x13) ++ ((wX2 G (ado 14) x14) ++ (wX7 G ad7 g))))))))))))))) := catw_perm (as := [0, 1, 2, 3, 4, 5, 6, 7, 8, 9, 10, 11, 12, 13, 14, 15]) (is := [0, 1]) (rs := [2, 3, 4, 5, 6, 7, 8, 9, 10, 11, 12, 13, 14, 15]) (PC G ad ado ad7 (M16 x0 x1 x2 x3 x4 x5 x6 x7 x8 x9 x10 x11 x12 x13 x14 g)) (by decide)
  have hPc : va_P G.1 vwCl ((wX6 G ad ado x0) ++ (wX0 G (ado 1) x1)) H := va_P_l (va_P_pm p1 hP)
  have hDc : va_D (fun q : Nat => s.heap.size ≤ q) ((wX6 G ad ado x0) ++ (wX0 G (ado 1) x1)) := va_D_l (va_D_pm p1 hD)
  refine cl_i_pm (Wd := (WL G ad ado ad7 x0 x1 x2 x3 x4 x5 x6 x7 x8 x9 x10 x11 x12 x13 x14 g)) (Wc := ((wX6 G ad ado x0) ++ (wX0 G (ado 1) x1))) (W' := ((wX6 G ad ado x0) ++ (wX0 G (ado 1) x1))) (W2 := (WL G ad ado ad7 x0 x1 x2 x3 x4 x5 x6 x7 x8 x9 x10 x11 x12 x13 x14 g)) (Wr := ((wX0 G (ado 2) x2) ++ ((wX0 G (ado 3) x3) ++ ((wX0 G (ado 4) x4) ++ ((wX4 G (ado 5) x5) ++ ((wX5 G (ado 6) (ado 7 0) x6) ++ ((wX0 G (ado 7) x7) ++ ((wX3 G (ado 8) x8) ++ ((wX1 G (ado 9) (ado 10 0) x9) ++ ((wX0 G (ado 10) x10) ++ ((wX2 G (ado 11) x11) ++ ((wX2 G (ado 12) x12) ++ ((wX2 G (ado 13) x13) ++ ((wX2 G (ado 14) x14) ++ (wX7 G ad7 g))))))))))))))) p1 p2 (va_runV (As := [.int (xs (nI i + nI 1).toNatClampNeg), .int (xs (nI i + nI 2).toNatClampNeg)]) (rest := []) hC (c_X6_goose l G ad ado x0 x1 (xs (nI i + nI 1).toNatClampNeg) (xs (nI i + nI 2).toNatClampNeg) r e1 _) (cwV 2 hts gL_law_X6_goose rfl rfl rfl (by decide +kernel) ⟨Nat.le_of_ble_eq_true rfl, Nat.le_of_ble_eq_true rfl⟩) ⟨Pc0_blind, va_recv hT hPc (q0 := 0) (ci := 6) rfl rfl, fun U hU hW => Pc0_at (Wd := ((wX6 G ad ado x0) ++ (wX0 G (ado 1) x1))) hE hPc hDc hU hW⟩ rfl rfl hl.1 rfl (lv_room (Nat.le_of_ble_eq_true rfl)) dL_law_334 ⟨Nat.le_of_ble_eq_true rfl, Nat.le_of_ble_eq_true rfl⟩) hS hA hP hD (fun H locs hP hD hS => ?_)
  clear p1 p2 hPc hDc
  refine lv_aload_n hx hb dL_law_337 rfl (lv_at hl 2 rfl) ?_
  refine lv_aload_n hx hb dL_law_338 rfl (lv_at hl 0 rfl) ?_
  refine lv_iload_n hx hb dL_law_339 rfl (lv_at hl 3 rfl) ?_
  refine lv_iconst (v := (nI 1)) hx hb dL_law_340 (ic_1) ?_
  refine lv_iadd hx hb dL_law_341 ?_
  refine va_sld hx hb hX hbl hbA hS hn1 dL_law_342 ?_
  refine lv_aload_n hx hb dL_law_343 rfl (lv_at hl 0 rfl) ?_
  refine lv_iload_n hx hb dL_law_344 rfl (lv_at hl 3 rfl) ?_
  refine lv_iconst (v := (nI 2)) hx hb dL_law_345 (ic_2) ?_
  refine lv_iadd hx hb dL_law_346 ?_
  refine va_sld hx hb hX hbl hbA hS hn2 dL_law_347 ?_
  have p1 : List.Perm (WL G ad ado ad7 x0 x1 x2 x3 x4 x5 x6 x7 x8 x9 x10 x11 x12 x13 x14 g) ((wX7 G ad7 g) ++ ((wX6 G ad ado x0) ++ ((wX0 G (ado 1) x1) ++ ((wX0 G (ado 2) x2) ++ ((wX0 G (ado 3) x3) ++ ((wX0 G (ado 4) x4) ++ ((wX4 G (ado 5) x5) ++ ((wX5 G (ado 6) (ado 7 0) x6) ++ ((wX0 G (ado 7) x7) ++ ((wX3 G (ado 8) x8) ++ ((wX1 G (ado 9) (ado 10 0) x9) ++ ((wX0 G (ado 10) x10) ++ ((wX2 G (ado 11) x11) ++ ((wX2 G (ado 12) x12) ++ ((wX2 G (ado 13) x13) ++ (wX2 G (ado 14) x14)))))))))))))))) := catw_perm (as := [0, 1, 2, 3, 4, 5, 6, 7, 8, 9, 10, 11, 12, 13, 14, 15]) (is := [15]) (rs := [0, 1, 2, 3, 4, 5, 6, 7, 8, 9, 10, 11, 12, 13, 14]) (PC G ad ado ad7 (M16 x0 x1 x2 x3 x4 x5 x6 x7 x8 x9 x10 x11 x12 x13 x14 g)) (by decide)
  have p2 : List.Perm (WL G ad ado ad7 x0 x1 x2 x3 x4 x5 x6 x7 x8 x9 x10 x11 x12 x13 x14 g) ((wX7 G ad7 g) ++ ((wX6 G ad ado x0) ++ ((wX0 G (ado 1) x1) ++ ((wX0 G (ado 2) x2) ++ ((wX0 G (ado 3) x3) ++ ((wX0 G (ado 4) x4) ++ ((wX4 G (ado 5) x5) ++ ((wX5 G (ado 6) (ado 7 0) x6) ++ ((wX0 G (ado 7) x7) ++ ((wX3 G (ado 8) x8) ++ ((wX1 G (ado 9) (ado 10 0) x9) ++ ((wX0 G (ado 10) x10) ++ ((wX2 G (ado 11) x11) ++ ((wX2 G (ado 12) x12) ++ ((wX2 G (ado 13) x13) ++ (wX2 G (ado 14) x14)))))))))))))))) := catw_perm (as := [0, 1, 2, 3, 4, 5, 6, 7, 8, 9, 10, 11, 12, 13, 14, 15]) (is := [15]) (rs := [0, 1, 2, 3, 4, 5, 6, 7, 8, 9, 10, 11, 12, 13, 14]) (PC G ad ado ad7 (M16 x0 x1 x2 x3 x4 x5 x6 x7 x8 x9 x10 x11 x12 x13 x14 g)) (by decide)
  have hPc : va_P G.1 vwCl (wX7 G ad7 g) H := va_P_l (va_P_pm p1 hP)
  have hDc : va_D (fun q : Nat => s.heap.size ≤ q) (wX7 G ad7 g) := va_D_l (va_D_pm p1 hD)
  refine cl_i_pm (Wd := (WL G ad ado ad7 x0 x1 x2 x3 x4 x5 x6 x7 x8 x9 x10 x11 x12 x13 x14 g)) (Wc := (wX7 G ad7 g)) (W' := (wX7 G ad7 g)) (W2 := (WL G ad ado ad7 x0 x1 x2 x3 x4 x5 x6 x7 x8 x9 x10 x11 x12 x13 x14 g)) (Wr := ((wX6 G ad ado x0) ++ ((wX0 G (ado 1) x1) ++ ((wX0 G (ado 2) x2) ++ ((wX0 G (ado 3) x3) ++ ((wX0 G (ado 4) x4) ++ ((wX4 G (ado 5) x5) ++ ((wX5 G (ado 6) (ado 7 0) x6) ++ ((wX0 G (ado 7) x7) ++ ((wX3 G (ado 8) x8) ++ ((wX1 G (ado 9) (ado 10 0) x9) ++ ((wX0 G (ado 10) x10) ++ ((wX2 G (ado 11) x11) ++ ((wX2 G (ado 12) x12) ++ ((wX2 G (ado 13) x13) ++ (wX2 G (ado 14) x14)))))))))))))))) p1 p2 (va_runV (As := [.int (xs (nI i + nI 1).toNatClampNeg), .int (xs (nI i + nI 2).toNatClampNeg)]) (rest := [.int r]) hC (c_X7_goose l G ad7 g (xs (nI i + nI 1).toNatClampNeg) (xs (nI i + nI 2).toNatClampNeg) r e2 _) (cwV 2 hts gL_law_X7_goose rfl rfl rfl (by decide +kernel) ⟨Nat.le_of_ble_eq_true rfl, Nat.le_of_ble_eq_true rfl⟩) ⟨Pc0_blind, va_recv hT hPc (q0 := 0) (ci := 7) rfl rfl, fun U hU hW => Pc0_at (Wd := (wX7 G ad7 g)) hE hPc hDc hU hW⟩ rfl rfl hl.1 rfl (lv_room (Nat.le_of_ble_eq_true rfl)) dL_law_348 ⟨Nat.le_of_ble_eq_true rfl, Nat.le_of_ble_eq_true rfl⟩) hS hA hP hD (fun H locs hP hD hS => ?_)
  clear p1 p2 hPc hDc
  refine lv_icmp_eq (tgt := 1766) hx hb dL_law_351 (by decide) (fun _ => ?_) (fun h => absurd rfl h)
  exact kk x0 x1 x2 x3 x4 x5 x6 x7 x8 x9 x10 x11 x12 x13 x14 g H locs Rr hP hD hS
set_option maxHeartbeats 8000000 in
set_option maxRecDepth 100000 in
theorem law_owner (hC : CallFix p m c cL_law 4 s args wsL_law RL) (hE : EV G s) (hZ : SV sk sv (fun q : Nat => s.heap.size ≤ q) s s.heap) (hX : va_X b L xs s s.heap) (hbl : b < s.heap.size) (hi : i + 6 ≤ L) (hL : L ≤ 384) (Rr : Rel x0 x1 x3 x4 x5 x6 x8 x11 x12 x13 x14 g) (hP : va_P G.1 vwCl (WL G ad ado ad7 x0 x1 x2 x3 x4 x5 x6 x7 x8 x9 x10 x11 x12 x13 x14 g) H) (hD : va_D (fun q : Nat => s.heap.size ≤ q) (WL G ad ado ad7 x0 x1 x2 x3 x4 x5 x6 x7 x8 x9 x10 x11 x12 x13 x14 g)) (hS : va_S (fun q : Nat => s.heap.size ≤ q) s.heap H locs) (hl : lv_has ls 4 [(0, .ref b), (1, .ref (ad 0)), (2, .ref (ad7 0)), (3, .int (nI i))]) (kk : GoOn p l e s m args below meth c G ad ado ad7 ls Q) : W p l e room_1 s m args below meth c H locs 100 2657 Q (F0 m 356 ls []) := by
  have hA : ∀ q : Nat, s.heap.size ≤ q → (fun q : Nat => s.heap.size ≤ q) q := fun _ h => h
  have hbA : ¬ (fun q : Nat => s.heap.size ≤ q) b := Nat.not_le.mpr hbl
  obtain ⟨hx, hb, hml, hown, hts⟩ := id hC
  have hT : va_K G.1 vwCl (tyL G) s := hE.1
  have hn1 : vp_in (nI i + nI 1) L := by rw [nI_add]; exact vp_in_nI (by omega) (by omega)
  have hn2 : vp_in (nI i + nI 2) L := by rw [nI_add]; exact vp_in_nI (by omega) (by omega)
  obtain ⟨r, e1, e2⟩ := op_owner Rr (xs (nI i + nI 1).toNatClampNeg) (xs (nI i + nI 2).toNatClampNeg)
  refine lv_aload_n hx hb dL_law_356 rfl (lv_at hl 1 rfl) ?_
  refine lv_aload_n hx hb dL_law_357 rfl (lv_at hl 0 rfl) ?_
  refine lv_iload_n hx hb dL_law_358 rfl (lv_at hl 3 rfl) ?_
  refine lv_iconst (v := (nI 1)) hx hb dL_law_359 (ic_1) ?_
  refine lv_iadd hx hb dL_law_360 ?_
  refine va_sld hx hb hX hbl hbA hS hn1 dL_law_361 ?_
  refine lv_aload_n hx hb dL_law_362 rfl (lv_at hl 0 rfl) ?_
  refine lv_iload_n hx hb dL_law_363 rfl (lv_at hl 3 rfl) ?_
  refine lv_iconst (v := (nI 2)) hx hb dL_law_364 (ic_2) ?_
  refine lv_iadd hx hb dL_law_365 ?_
  refine va_sld hx hb hX hbl hbA hS hn2 dL_law_366 ?_
  have p1 : List.Perm (WL G ad ado ad7 x0 x1 x2 x3 x4 x5 x6 x7 x8 x9 x10 x11 x12 x13 x14 g) (((wX6 G ad ado x0) ++ (wX0 G (ado 1) x1)) ++ ((wX0 G (ado 2) x2) ++ ((wX0 G (ado 3) x3) ++ ((wX0 G (ado 4) x4) ++ ((wX4 G (ado 5) x5) ++ ((wX5 G (ado 6) (ado 7 0) x6) ++ ((wX0 G (ado 7) x7) ++ ((wX3 G (ado 8) x8) ++ ((wX1 G (ado 9) (ado 10 0) x9) ++ ((wX0 G (ado 10) x10) ++ ((wX2 G (ado 11) x11) ++ ((wX2 G (ado 12) x12) ++ ((wX2 G (ado 13) x13) ++ ((wX2 G (ado 14) x14) ++ (wX7 G ad7 g))))))))))))))) := catw_perm (as := [0, 1, 2, 3, 4, 5, 6, 7, 8, 9, 10, 11, 12, 13, 14, 15]) (is := [0, 1]) (rs := [2, 3, 4, 5, 6, 7, 8, 9, 10, 11, 12, 13, 14, 15]) (PC G ad ado ad7 (M16 x0 x1 x2 x3 x4 x5 x6 x7 x8 x9 x10 x11 x12 x13 x14 g)) (by decide)
  have p2 : List.Perm (WL G ad ado ad7 x0 x1 x2 x3 x4 x5 x6 x7 x8 x9 x10 x11 x12 x13 x14 g) (((wX6 G ad ado x0) ++ (wX0 G (ado 1) x1)) ++ ((wX0 G (ado 2) x2) ++ ((wX0 G (ado 3) x3) ++ ((wX0 G (ado 4) x4) ++ ((wX4 G (ado 5) x5) ++ ((wX5 G (ado 6) (ado 7 0) x6) ++ ((wX0 G (ado 7) x7) ++ ((wX3 G (ado 8) x8) ++ ((wX1 G (ado 9) (ado 10 0) x9) ++ ((wX0 G (ado 10) x10) ++ ((wX2 G (ado 11) x11) ++ ((wX2 G (ado 12) x12) ++ ((wX2 G (ado 13) x13) ++ ((wX2 G (ado 14) x14) ++ (wX7 G ad7 g))))))))))))))) := catw_perm (as := [0, 1, 2, 3, 4, 5, 6, 7, 8, 9, 10, 11, 12, 13, 14, 15]) (is := [0, 1]) (rs := [2, 3, 4, 5, 6, 7, 8, 9, 10, 11, 12, 13, 14, 15]) (PC G ad ado ad7 (M16 x0 x1 x2 x3 x4 x5 x6 x7 x8 x9 x10 x11 x12 x13 x14 g)) (by decide)
  have hPc : va_P G.1 vwCl ((wX6 G ad ado x0) ++ (wX0 G (ado 1) x1)) H := va_P_l (va_P_pm p1 hP)
  have hDc : va_D (fun q : Nat => s.heap.size ≤ q) ((wX6 G ad ado x0) ++ (wX0 G (ado 1) x1)) := va_D_l (va_D_pm p1 hD)
  refine cl_i_pm (Wd := (WL G ad ado ad7 x0 x1 x2 x3 x4 x5 x6 x7 x8 x9 x10 x11 x12 x13 x14 g)) (Wc := ((wX6 G ad ado x0) ++ (wX0 G (ado 1) x1))) (W' := ((wX6 G ad ado x0) ++ (wX0 G (ado 1) x1))) (W2 := (WL G ad ado ad7 x0 x1 x2 x3 x4 x5 x6 x7 x8 x9 x10 x11 x12 x13 x14 g)) (Wr := ((wX0 G (ado 2) x2) ++ ((wX0 G (ado 3) x3) ++ ((wX0 G (ado 4) x4) ++ ((wX4 G (ado 5) x5) ++ ((wX5 G (ado 6) (ado 7 0) x6) ++ ((wX0 G (ado 7) x7) ++ ((wX3 G (ado 8) x8) ++ ((wX1 G (ado 9) (ado 10 0) x9) ++ ((wX0 G (ado 10) x10) ++ ((wX2 G (ado 11) x11) ++ ((wX2 G (ado 12) x12) ++ ((wX2 G (ado 13) x13) ++ ((wX2 G (ado 14) x14) ++ (wX7 G ad7 g))))))))))))))) p1 p2 (va_runV (As := [.int (xs (nI i + nI 1).toNatClampNeg), .int (xs (nI i + nI 2).toNatClampNeg)]) (rest := []) hC (c_X6_owner l G ad ado x0 x1 (xs (nI i + nI 1).toNatClampNeg) (xs (nI i + nI 2).toNatClampNeg) r e1 _) (cwV 2 hts gL_law_X6_owner rfl rfl rfl (by decide +kernel) ⟨Nat.le_of_ble_eq_true rfl, Nat.le_of_ble_eq_true rfl⟩) ⟨Pc0_blind, va_recv hT hPc (q0 := 0) (ci := 6) rfl rfl, fun U hU hW => Pc0_at (Wd := ((wX6 G ad ado x0) ++ (wX0 G (ado 1) x1))) hE hPc hDc hU hW⟩ rfl rfl hl.1 rfl (lv_room (Nat.le_of_ble_eq_true rfl)) dL_law_367 ⟨Nat.le_of_ble_eq_true rfl, Nat.le_of_ble_eq_true rfl⟩) hS hA hP hD (fun H locs hP hD hS => ?_)
  clear p1 p2 hPc hDc
  refine lv_aload_n hx hb dL_law_370 rfl (lv_at hl 2 rfl) ?_
  refine lv_aload_n hx hb dL_law_371 rfl (lv_at hl 0 rfl) ?_
  refine lv_iload_n hx hb dL_law_372 rfl (lv_at hl 3 rfl) ?_
  refine lv_iconst (v := (nI 1)) hx hb dL_law_373 (ic_1) ?_
  refine lv_iadd hx hb dL_law_374 ?_
  refine va_sld hx hb hX hbl hbA hS hn1 dL_law_375 ?_
  refine lv_aload_n hx hb dL_law_376 rfl (lv_at hl 0 rfl) ?_
  refine lv_iload_n hx hb dL_law_377 rfl (lv_at hl 3 rfl) ?_
  refine lv_iconst (v := (nI 2)) hx hb dL_law_378 (ic_2) ?_
  refine lv_iadd hx hb dL_law_379 ?_
  refine va_sld hx hb hX hbl hbA hS hn2 dL_law_380 ?_
  have p1 : List.Perm (WL G ad ado ad7 x0 x1 x2 x3 x4 x5 x6 x7 x8 x9 x10 x11 x12 x13 x14 g) ((wX7 G ad7 g) ++ ((wX6 G ad ado x0) ++ ((wX0 G (ado 1) x1) ++ ((wX0 G (ado 2) x2) ++ ((wX0 G (ado 3) x3) ++ ((wX0 G (ado 4) x4) ++ ((wX4 G (ado 5) x5) ++ ((wX5 G (ado 6) (ado 7 0) x6) ++ ((wX0 G (ado 7) x7) ++ ((wX3 G (ado 8) x8) ++ ((wX1 G (ado 9) (ado 10 0) x9) ++ ((wX0 G (ado 10) x10) ++ ((wX2 G (ado 11) x11) ++ ((wX2 G (ado 12) x12) ++ ((wX2 G (ado 13) x13) ++ (wX2 G (ado 14) x14)))))))))))))))) := catw_perm (as := [0, 1, 2, 3, 4, 5, 6, 7, 8, 9, 10, 11, 12, 13, 14, 15]) (is := [15]) (rs := [0, 1, 2, 3, 4, 5, 6, 7, 8, 9, 10, 11, 12, 13, 14]) (PC G ad ado ad7 (M16 x0 x1 x2 x3 x4 x5 x6 x7 x8 x9 x10 x11 x12 x13 x14 g)) (by decide)
  have p2 : List.Perm (WL G ad ado ad7 x0 x1 x2 x3 x4 x5 x6 x7 x8 x9 x10 x11 x12 x13 x14 g) ((wX7 G ad7 g) ++ ((wX6 G ad ado x0) ++ ((wX0 G (ado 1) x1) ++ ((wX0 G (ado 2) x2) ++ ((wX0 G (ado 3) x3) ++ ((wX0 G (ado 4) x4) ++ ((wX4 G (ado 5) x5) ++ ((wX5 G (ado 6) (ado 7 0) x6) ++ ((wX0 G (ado 7) x7) ++ ((wX3 G (ado 8) x8) ++ ((wX1 G (ado 9) (ado 10 0) x9) ++ ((wX0 G (ado 10) x10) ++ ((wX2 G (ado 11) x11) ++ ((wX2 G (ado 12) x12) ++ ((wX2 G (ado 13) x13) ++ (wX2 G (ado 14) x14)))))))))))))))) := catw_perm (as := [0, 1, 2, 3, 4, 5, 6, 7, 8, 9, 10, 11, 12, 13, 14, 15]) (is := [15]) (rs := [0, 1, 2, 3, 4, 5, 6, 7, 8, 9, 10, 11, 12, 13, 14]) (PC G ad ado ad7 (M16 x0 x1 x2 x3 x4 x5 x6 x7 x8 x9 x10 x11 x12 x13 x14 g)) (by decide)
  have hPc : va_P G.1 vwCl (wX7 G ad7 g) H := va_P_l (va_P_pm p1 hP)
  have hDc : va_D (fun q : Nat => s.heap.size ≤ q) (wX7 G ad7 g) := va_D_l (va_D_pm p1 hD)
  refine cl_i_pm (Wd := (WL G ad ado ad7 x0 x1 x2 x3 x4 x5 x6 x7 x8 x9 x10 x11 x12 x13 x14 g)) (Wc := (wX7 G ad7 g)) (W' := (wX7 G ad7 g)) (W2 := (WL G ad ado ad7 x0 x1 x2 x3 x4 x5 x6 x7 x8 x9 x10 x11 x12 x13 x14 g)) (Wr := ((wX6 G ad ado x0) ++ ((wX0 G (ado 1) x1) ++ ((wX0 G (ado 2) x2) ++ ((wX0 G (ado 3) x3) ++ ((wX0 G (ado 4) x4) ++ ((wX4 G (ado 5) x5) ++ ((wX5 G (ado 6) (ado 7 0) x6) ++ ((wX0 G (ado 7) x7) ++ ((wX3 G (ado 8) x8) ++ ((wX1 G (ado 9) (ado 10 0) x9) ++ ((wX0 G (ado 10) x10) ++ ((wX2 G (ado 11) x11) ++ ((wX2 G (ado 12) x12) ++ ((wX2 G (ado 13) x13) ++ (wX2 G (ado 14) x14)))))))))))))))) p1 p2 (va_runV (As := [.int (xs (nI i + nI 1).toNatClampNeg), .int (xs (nI i + nI 2).toNatClampNeg)]) (rest := [.int r]) hC (c_X7_owner l G ad7 g (xs (nI i + nI 1).toNatClampNeg) (xs (nI i + nI 2).toNatClampNeg) r e2 _) (cwV 2 hts gL_law_X7_owner rfl rfl rfl (by decide +kernel) ⟨Nat.le_of_ble_eq_true rfl, Nat.le_of_ble_eq_true rfl⟩) ⟨Pc0_blind, va_recv hT hPc (q0 := 0) (ci := 7) rfl rfl, fun U hU hW => Pc0_at (Wd := (wX7 G ad7 g)) hE hPc hDc hU hW⟩ rfl rfl hl.1 rfl (lv_room (Nat.le_of_ble_eq_true rfl)) dL_law_381 ⟨Nat.le_of_ble_eq_true rfl, Nat.le_of_ble_eq_true rfl⟩) hS hA hP hD (fun H locs hP hD hS => ?_)
  clear p1 p2 hPc hDc
  refine lv_icmp_eq (tgt := 1766) hx hb dL_law_384 (by decide) (fun _ => ?_) (fun h => absurd rfl h)
  exact kk x0 x1 x2 x3 x4 x5 x6 x7 x8 x9 x10 x11 x12 x13 x14 g H locs Rr hP hD hS
set_option maxHeartbeats 8000000 in
set_option maxRecDepth 100000 in
theorem law_share (hC : CallFix p m c cL_law 4 s args wsL_law RL) (hE : EV G s) (hZ : SV sk sv (fun q : Nat => s.heap.size ≤ q) s s.heap) (hX : va_X b L xs s s.heap) (hbl : b < s.heap.size) (hi : i + 6 ≤ L) (hL : L ≤ 384) (Rr : Rel x0 x1 x3 x4 x5 x6 x8 x11 x12 x13 x14 g) (hP : va_P G.1 vwCl (WL G ad ado ad7 x0 x1 x2 x3 x4 x5 x6 x7 x8 x9 x10 x11 x12 x13 x14 g) H) (hD : va_D (fun q : Nat => s.heap.size ≤ q) (WL G ad ado ad7 x0 x1 x2 x3 x4 x5 x6 x7 x8 x9 x10 x11 x12 x13 x14 g)) (hS : va_S (fun q : Nat => s.heap.size ≤ q) s.heap H locs) (hl : lv_has ls 4 [(0, .ref b), (1, .ref (ad 0)), (2, .ref (ad7 0)), (3, .int (nI i))]) (kk : GoOn p l e s m args below meth c G ad ado ad7 ls Q) : W p l e room_1 s m args below meth c H locs 100 2657 Q (F0 m 389 ls []) := by
  have hA : ∀ q : Nat, s.heap.size ≤ q → (fun q : Nat => s.heap.size ≤ q) q := fun _ h => h
  have hbA : ¬ (fun q : Nat => s.heap.size ≤ q) b := Nat.not_le.mpr hbl
  obtain ⟨hx, hb, hml, hown, hts⟩ := id hC
  have hT : va_K G.1 vwCl (tyL G) s := hE.1
  have hn1 : vp_in (nI i + nI 1) L := by rw [nI_add]; exact vp_in_nI (by omega) (by omega)
  have hn2 : vp_in (nI i + nI 2) L := by rw [nI_add]; exact vp_in_nI (by omega) (by omega)
  obtain ⟨r, e1, e2⟩ := op_share Rr (xs (nI i + nI 1).toNatClampNeg) (xs (nI i + nI 2).toNatClampNeg)
  refine lv_aload_n hx hb dL_law_389 rfl (lv_at hl 1 rfl) ?_
  refine lv_aload_n hx hb dL_law_390 rfl (lv_at hl 0 rfl) ?_
  refine lv_iload_n hx hb dL_law_391 rfl (lv_at hl 3 rfl) ?_
  refine lv_iconst (v := (nI 1)) hx hb dL_law_392 (ic_1) ?_
  refine lv_iadd hx hb dL_law_393 ?_
  refine va_sld hx hb hX hbl hbA hS hn1 dL_law_394 ?_
  refine lv_aload_n hx hb dL_law_395 rfl (lv_at hl 0 rfl) ?_
  refine lv_iload_n hx hb dL_law_396 rfl (lv_at hl 3 rfl) ?_
  refine lv_iconst (v := (nI 2)) hx hb dL_law_397 (ic_2) ?_
  refine lv_iadd hx hb dL_law_398 ?_
  refine va_sld hx hb hX hbl hbA hS hn2 dL_law_399 ?_
  have p1 : List.Perm (WL G ad ado ad7 x0 x1 x2 x3 x4 x5 x6 x7 x8 x9 x10 x11 x12 x13 x14 g) (((wX6 G ad ado x0) ++ (wX0 G (ado 1) x1)) ++ ((wX0 G (ado 2) x2) ++ ((wX0 G (ado 3) x3) ++ ((wX0 G (ado 4) x4) ++ ((wX4 G (ado 5) x5) ++ ((wX5 G (ado 6) (ado 7 0) x6) ++ ((wX0 G (ado 7) x7) ++ ((wX3 G (ado 8) x8) ++ ((wX1 G (ado 9) (ado 10 0) x9) ++ ((wX0 G (ado 10) x10) ++ ((wX2 G (ado 11) x11) ++ ((wX2 G (ado 12) x12) ++ ((wX2 G (ado 13) x13) ++ ((wX2 G (ado 14) x14) ++ (wX7 G ad7 g))))))))))))))) := catw_perm (as := [0, 1, 2, 3, 4, 5, 6, 7, 8, 9, 10, 11, 12, 13, 14, 15]) (is := [0, 1]) (rs := [2, 3, 4, 5, 6, 7, 8, 9, 10, 11, 12, 13, 14, 15]) (PC G ad ado ad7 (M16 x0 x1 x2 x3 x4 x5 x6 x7 x8 x9 x10 x11 x12 x13 x14 g)) (by decide)
  have p2 : List.Perm (WL G ad ado ad7 x0 x1 x2 x3 x4 x5 x6 x7 x8 x9 x10 x11 x12 x13 x14 g) (((wX6 G ad ado x0) ++ (wX0 G (ado 1) x1)) ++ ((wX0 G (ado 2) x2) ++ ((wX0 G (ado 3) x3) ++ ((wX0 G (ado 4) x4) ++ ((wX4 G (ado 5) x5) ++ ((wX5 G (ado 6) (ado 7 0) x6) ++ ((wX0 G (ado 7) x7) ++ ((wX3 G (ado 8) x8) ++ ((wX1 G (ado 9) (ado 10 0) x9) ++ ((wX0 G (ado 10) x10) ++ ((wX2 G (ado 11) x11) ++ ((wX2 G (ado 12) x12) ++ ((wX2 G (ado 13) x13) ++ ((wX2 G (ado 14) x14) ++ (wX7 G ad7 g))))))))))))))) := catw_perm (as := [0, 1, 2, 3, 4, 5, 6, 7, 8, 9, 10, 11, 12, 13, 14, 15]) (is := [0, 1]) (rs := [2, 3, 4, 5, 6, 7, 8, 9, 10, 11, 12, 13, 14, 15]) (PC G ad ado ad7 (M16 x0 x1 x2 x3 x4 x5 x6 x7 x8 x9 x10 x11 x12 x13 x14 g)) (by decide)
  have hPc : va_P G.1 vwCl ((wX6 G ad ado x0) ++ (wX0 G (ado 1) x1)) H := va_P_l (va_P_pm p1 hP)
  have hDc : va_D (fun q : Nat => s.heap.size ≤ q) ((wX6 G ad ado x0) ++ (wX0 G (ado 1) x1)) := va_D_l (va_D_pm p1 hD)
  refine cl_i_pm (Wd := (WL G ad ado ad7 x0 x1 x2 x3 x4 x5 x6 x7 x8 x9 x10 x11 x12 x13 x14 g)) (Wc := ((wX6 G ad ado x0) ++ (wX0 G (ado 1) x1))) (W' := ((wX6 G ad ado x0) ++ (wX0 G (ado 1) x1))) (W2 := (WL G ad ado ad7 x0 x1 x2 x3 x4 x5 x6 x7 x8 x9 x10 x11 x12 x13 x14 g)) (Wr := ((wX0 G (ado 2) x2) ++ ((wX0 G (ado 3) x3) ++ ((wX0 G (ado 4) x4) ++ ((wX4 G (ado 5) x5) ++ ((wX5 G (ado 6) (ado 7 0) x6) ++ ((wX0 G (ado 7) x7) ++ ((wX3 G (ado 8) x8) ++ ((wX1 G (ado 9) (ado 10 0) x9) ++ ((wX0 G (ado 10) x10) ++ ((wX2 G (ado 11) x11) ++ ((wX2 G (ado 12) x12) ++ ((wX2 G (ado 13) x13) ++ ((wX2 G (ado 14) x14) ++ (wX7 G ad7 g))))))))))))))) p1 p2 (va_runV (As := [.int (xs (nI i + nI 1).toNatClampNeg), .int (xs (nI i + nI 2).toNatClampNeg)]) (rest := []) hC (c_X6_share l G ad ado x0 x1 (xs (nI i + nI 1).toNatClampNeg) (xs (nI i + nI 2).toNatClampNeg) r e1 _) (cwV 2 hts gL_law_X6_share rfl rfl rfl (by decide +kernel) ⟨Nat.le_of_ble_eq_true rfl, Nat.le_of_ble_eq_true rfl⟩) ⟨Pc0_blind, va_recv hT hPc (q0 := 0) (ci := 6) rfl rfl, fun U hU hW => Pc0_at (Wd := ((wX6 G ad ado x0) ++ (wX0 G (ado 1) x1))) hE hPc hDc hU hW⟩ rfl rfl hl.1 rfl (lv_room (Nat.le_of_ble_eq_true rfl)) dL_law_400 ⟨Nat.le_of_ble_eq_true rfl, Nat.le_of_ble_eq_true rfl⟩) hS hA hP hD (fun H locs hP hD hS => ?_)
  clear p1 p2 hPc hDc
  refine lv_aload_n hx hb dL_law_403 rfl (lv_at hl 2 rfl) ?_
  refine lv_aload_n hx hb dL_law_404 rfl (lv_at hl 0 rfl) ?_
  refine lv_iload_n hx hb dL_law_405 rfl (lv_at hl 3 rfl) ?_
  refine lv_iconst (v := (nI 1)) hx hb dL_law_406 (ic_1) ?_
  refine lv_iadd hx hb dL_law_407 ?_
  refine va_sld hx hb hX hbl hbA hS hn1 dL_law_408 ?_
  refine lv_aload_n hx hb dL_law_409 rfl (lv_at hl 0 rfl) ?_
  refine lv_iload_n hx hb dL_law_410 rfl (lv_at hl 3 rfl) ?_
  refine lv_iconst (v := (nI 2)) hx hb dL_law_411 (ic_2) ?_
  refine lv_iadd hx hb dL_law_412 ?_
  refine va_sld hx hb hX hbl hbA hS hn2 dL_law_413 ?_
  have p1 : List.Perm (WL G ad ado ad7 x0 x1 x2 x3 x4 x5 x6 x7 x8 x9 x10 x11 x12 x13 x14 g) ((wX7 G ad7 g) ++ ((wX6 G ad ado x0) ++ ((wX0 G (ado 1) x1) ++ ((wX0 G (ado 2) x2) ++ ((wX0 G (ado 3) x3) ++ ((wX0 G (ado 4) x4) ++ ((wX4 G (ado 5) x5) ++ ((wX5 G (ado 6) (ado 7 0) x6) ++ ((wX0 G (ado 7) x7) ++ ((wX3 G (ado 8) x8) ++ ((wX1 G (ado 9) (ado 10 0) x9) ++ ((wX0 G (ado 10) x10) ++ ((wX2 G (ado 11) x11) ++ ((wX2 G (ado 12) x12) ++ ((wX2 G (ado 13) x13) ++ (wX2 G (ado 14) x14)))))))))))))))) := catw_perm (as := [0, 1, 2, 3, 4, 5, 6, 7, 8, 9, 10, 11, 12, 13, 14, 15]) (is := [15]) (rs := [0, 1, 2, 3, 4, 5, 6, 7, 8, 9, 10, 11, 12, 13, 14]) (PC G ad ado ad7 (M16 x0 x1 x2 x3 x4 x5 x6 x7 x8 x9 x10 x11 x12 x13 x14 g)) (by decide)
  have p2 : List.Perm (WL G ad ado ad7 x0 x1 x2 x3 x4 x5 x6 x7 x8 x9 x10 x11 x12 x13 x14 g) ((wX7 G ad7 g) ++ ((wX6 G ad ado x0) ++ ((wX0 G (ado 1) x1) ++ ((wX0 G (ado 2) x2) ++ ((wX0 G (ado 3) x3) ++ ((wX0 G (ado 4) x4) ++ ((wX4 G (ado 5) x5) ++ ((wX5 G (ado 6) (ado 7 0) x6) ++ ((wX0 G (ado 7) x7) ++ ((wX3 G (ado 8) x8) ++ ((wX1 G (ado 9) (ado 10 0) x9) ++ ((wX0 G (ado 10) x10) ++ ((wX2 G (ado 11) x11) ++ ((wX2 G (ado 12) x12) ++ ((wX2 G (ado 13) x13) ++ (wX2 G (ado 14) x14)))))))))))))))) := catw_perm (as := [0, 1, 2, 3, 4, 5, 6, 7, 8, 9, 10, 11, 12, 13, 14, 15]) (is := [15]) (rs := [0, 1, 2, 3, 4, 5, 6, 7, 8, 9, 10, 11, 12, 13, 14]) (PC G ad ado ad7 (M16 x0 x1 x2 x3 x4 x5 x6 x7 x8 x9 x10 x11 x12 x13 x14 g)) (by decide)
  have hPc : va_P G.1 vwCl (wX7 G ad7 g) H := va_P_l (va_P_pm p1 hP)
  have hDc : va_D (fun q : Nat => s.heap.size ≤ q) (wX7 G ad7 g) := va_D_l (va_D_pm p1 hD)
  refine cl_i_pm (Wd := (WL G ad ado ad7 x0 x1 x2 x3 x4 x5 x6 x7 x8 x9 x10 x11 x12 x13 x14 g)) (Wc := (wX7 G ad7 g)) (W' := (wX7 G ad7 g)) (W2 := (WL G ad ado ad7 x0 x1 x2 x3 x4 x5 x6 x7 x8 x9 x10 x11 x12 x13 x14 g)) (Wr := ((wX6 G ad ado x0) ++ ((wX0 G (ado 1) x1) ++ ((wX0 G (ado 2) x2) ++ ((wX0 G (ado 3) x3) ++ ((wX0 G (ado 4) x4) ++ ((wX4 G (ado 5) x5) ++ ((wX5 G (ado 6) (ado 7 0) x6) ++ ((wX0 G (ado 7) x7) ++ ((wX3 G (ado 8) x8) ++ ((wX1 G (ado 9) (ado 10 0) x9) ++ ((wX0 G (ado 10) x10) ++ ((wX2 G (ado 11) x11) ++ ((wX2 G (ado 12) x12) ++ ((wX2 G (ado 13) x13) ++ (wX2 G (ado 14) x14)))))))))))))))) p1 p2 (va_runV (As := [.int (xs (nI i + nI 1).toNatClampNeg), .int (xs (nI i + nI 2).toNatClampNeg)]) (rest := [.int r]) hC (c_X7_share l G ad7 g (xs (nI i + nI 1).toNatClampNeg) (xs (nI i + nI 2).toNatClampNeg) r e2 _) (cwV 2 hts gL_law_X7_share rfl rfl rfl (by decide +kernel) ⟨Nat.le_of_ble_eq_true rfl, Nat.le_of_ble_eq_true rfl⟩) ⟨Pc0_blind, va_recv hT hPc (q0 := 0) (ci := 7) rfl rfl, fun U hU hW => Pc0_at (Wd := (wX7 G ad7 g)) hE hPc hDc hU hW⟩ rfl rfl hl.1 rfl (lv_room (Nat.le_of_ble_eq_true rfl)) dL_law_414 ⟨Nat.le_of_ble_eq_true rfl, Nat.le_of_ble_eq_true rfl⟩) hS hA hP hD (fun H locs hP hD hS => ?_)
  clear p1 p2 hPc hDc
  refine lv_icmp_eq (tgt := 1766) hx hb dL_law_417 (by decide) (fun _ => ?_) (fun h => absurd rfl h)
  exact kk x0 x1 x2 x3 x4 x5 x6 x7 x8 x9 x10 x11 x12 x13 x14 g H locs Rr hP hD hS
set_option maxHeartbeats 8000000 in
set_option maxRecDepth 100000 in
theorem law_trade (hC : CallFix p m c cL_law 4 s args wsL_law RL) (hE : EV G s) (hZ : SV sk sv (fun q : Nat => s.heap.size ≤ q) s s.heap) (hX : va_X b L xs s s.heap) (hbl : b < s.heap.size) (hi : i + 6 ≤ L) (hL : L ≤ 384) (Rr : Rel x0 x1 x3 x4 x5 x6 x8 x11 x12 x13 x14 g) (hP : va_P G.1 vwCl (WL G ad ado ad7 x0 x1 x2 x3 x4 x5 x6 x7 x8 x9 x10 x11 x12 x13 x14 g) H) (hD : va_D (fun q : Nat => s.heap.size ≤ q) (WL G ad ado ad7 x0 x1 x2 x3 x4 x5 x6 x7 x8 x9 x10 x11 x12 x13 x14 g)) (hS : va_S (fun q : Nat => s.heap.size ≤ q) s.heap H locs) (hl : lv_has ls 4 [(0, .ref b), (1, .ref (ad 0)), (2, .ref (ad7 0)), (3, .int (nI i))]) (kk : GoOn p l e s m args below meth c G ad ado ad7 ls Q) : W p l e room_1 s m args below meth c H locs 100 2657 Q (F0 m 422 ls []) := by
  have hA : ∀ q : Nat, s.heap.size ≤ q → (fun q : Nat => s.heap.size ≤ q) q := fun _ h => h
  have hbA : ¬ (fun q : Nat => s.heap.size ≤ q) b := Nat.not_le.mpr hbl
  obtain ⟨hx, hb, hml, hown, hts⟩ := id hC
  have hT : va_K G.1 vwCl (tyL G) s := hE.1
  have hn1 : vp_in (nI i + nI 1) L := by rw [nI_add]; exact vp_in_nI (by omega) (by omega)
  have hn2 : vp_in (nI i + nI 2) L := by rw [nI_add]; exact vp_in_nI (by omega) (by omega)
  obtain ⟨r, e1, e2⟩ := op_trade Rr (xs (nI i + nI 1).toNatClampNeg) (xs (nI i + nI 2).toNatClampNeg)
  refine lv_aload_n hx hb dL_law_422 rfl (lv_at hl 1 rfl) ?_
  refine lv_aload_n hx hb dL_law_423 rfl (lv_at hl 0 rfl) ?_
  refine lv_iload_n hx hb dL_law_424 rfl (lv_at hl 3 rfl) ?_
  refine lv_iconst (v := (nI 1)) hx hb dL_law_425 (ic_1) ?_
  refine lv_iadd hx hb dL_law_426 ?_
  refine va_sld hx hb hX hbl hbA hS hn1 dL_law_427 ?_
  refine lv_aload_n hx hb dL_law_428 rfl (lv_at hl 0 rfl) ?_
  refine lv_iload_n hx hb dL_law_429 rfl (lv_at hl 3 rfl) ?_
  refine lv_iconst (v := (nI 2)) hx hb dL_law_430 (ic_2) ?_
  refine lv_iadd hx hb dL_law_431 ?_
  refine va_sld hx hb hX hbl hbA hS hn2 dL_law_432 ?_
  have p1 : List.Perm (WL G ad ado ad7 x0 x1 x2 x3 x4 x5 x6 x7 x8 x9 x10 x11 x12 x13 x14 g) (((wX6 G ad ado x0) ++ (wX0 G (ado 1) x1)) ++ ((wX0 G (ado 2) x2) ++ ((wX0 G (ado 3) x3) ++ ((wX0 G (ado 4) x4) ++ ((wX4 G (ado 5) x5) ++ ((wX5 G (ado 6) (ado 7 0) x6) ++ ((wX0 G (ado 7) x7) ++ ((wX3 G (ado 8) x8) ++ ((wX1 G (ado 9) (ado 10 0) x9) ++ ((wX0 G (ado 10) x10) ++ ((wX2 G (ado 11) x11) ++ ((wX2 G (ado 12) x12) ++ ((wX2 G (ado 13) x13) ++ ((wX2 G (ado 14) x14) ++ (wX7 G ad7 g))))))))))))))) := catw_perm (as := [0, 1, 2, 3, 4, 5, 6, 7, 8, 9, 10, 11, 12, 13, 14, 15]) (is := [0, 1]) (rs := [2, 3, 4, 5, 6, 7, 8, 9, 10, 11, 12, 13, 14, 15]) (PC G ad ado ad7 (M16 x0 x1 x2 x3 x4 x5 x6 x7 x8 x9 x10 x11 x12 x13 x14 g)) (by decide)
  have p2 : List.Perm (WL G ad ado ad7 x0 x1 x2 x3 x4 x5 x6 x7 x8 x9 x10 x11 x12 x13 x14 g) (((wX6 G ad ado x0) ++ (wX0 G (ado 1) x1)) ++ ((wX0 G (ado 2) x2) ++ ((wX0 G (ado 3) x3) ++ ((wX0 G (ado 4) x4) ++ ((wX4 G (ado 5) x5) ++ ((wX5 G (ado 6) (ado 7 0) x6) ++ ((wX0 G (ado 7) x7) ++ ((wX3 G (ado 8) x8) ++ ((wX1 G (ado 9) (ado 10 0) x9) ++ ((wX0 G (ado 10) x10) ++ ((wX2 G (ado 11) x11) ++ ((wX2 G (ado 12) x12) ++ ((wX2 G (ado 13) x13) ++ ((wX2 G (ado 14) x14) ++ (wX7 G ad7 g))))))))))))))) := catw_perm (as := [0, 1, 2, 3, 4, 5, 6, 7, 8, 9, 10, 11, 12, 13, 14, 15]) (is := [0, 1]) (rs := [2, 3, 4, 5, 6, 7, 8, 9, 10, 11, 12, 13, 14, 15]) (PC G ad ado ad7 (M16 x0 x1 x2 x3 x4 x5 x6 x7 x8 x9 x10 x11 x12 x13 x14 g)) (by decide)
  have hPc : va_P G.1 vwCl ((wX6 G ad ado x0) ++ (wX0 G (ado 1) x1)) H := va_P_l (va_P_pm p1 hP)
  have hDc : va_D (fun q : Nat => s.heap.size ≤ q) ((wX6 G ad ado x0) ++ (wX0 G (ado 1) x1)) := va_D_l (va_D_pm p1 hD)
  refine cl_i_pm (Wd := (WL G ad ado ad7 x0 x1 x2 x3 x4 x5 x6 x7 x8 x9 x10 x11 x12 x13 x14 g)) (Wc := ((wX6 G ad ado x0) ++ (wX0 G (ado 1) x1))) (W' := ((wX6 G ad ado x0) ++ (wX0 G (ado 1) x1))) (W2 := (WL G ad ado ad7 x0 x1 x2 x3 x4 x5 x6 x7 x8 x9 x10 x11 x12 x13 x14 g)) (Wr := ((wX0 G (ado 2) x2) ++ ((wX0 G (ado 3) x3) ++ ((wX0 G (ado 4) x4) ++ ((wX4 G (ado 5) x5) ++ ((wX5 G (ado 6) (ado 7 0) x6) ++ ((wX0 G (ado 7) x7) ++ ((wX3 G (ado 8) x8) ++ ((wX1 G (ado 9) (ado 10 0) x9) ++ ((wX0 G (ado 10) x10) ++ ((wX2 G (ado 11) x11) ++ ((wX2 G (ado 12) x12) ++ ((wX2 G (ado 13) x13) ++ ((wX2 G (ado 14) x14) ++ (wX7 G ad7 g))))))))))))))) p1 p2 (va_runV (As := [.int (xs (nI i + nI 1).toNatClampNeg), .int (xs (nI i + nI 2).toNatClampNeg)]) (rest := []) hC (c_X6_trade l G ad ado x0 x1 (xs (nI i + nI 1).toNatClampNeg) (xs (nI i + nI 2).toNatClampNeg) r e1 _) (cwV 2 hts gL_law_X6_trade rfl rfl rfl (by decide +kernel) ⟨Nat.le_of_ble_eq_true rfl, Nat.le_of_ble_eq_true rfl⟩) ⟨Pc0_blind, va_recv hT hPc (q0 := 0) (ci := 6) rfl rfl, fun U hU hW => Pc0_at (Wd := ((wX6 G ad ado x0) ++ (wX0 G (ado 1) x1))) hE hPc hDc hU hW⟩ rfl rfl hl.1 rfl (lv_room (Nat.le_of_ble_eq_true rfl)) dL_law_433 ⟨Nat.le_of_ble_eq_true rfl, Nat.le_of_ble_eq_true rfl⟩) hS hA hP hD (fun H locs hP hD hS => ?_)
  clear p1 p2 hPc hDc
  refine lv_aload_n hx hb dL_law_436 rfl (lv_at hl 2 rfl) ?_
  refine lv_aload_n hx hb dL_law_437 rfl (lv_at hl 0 rfl) ?_
  refine lv_iload_n hx hb dL_law_438 rfl (lv_at hl 3 rfl) ?_
  refine lv_iconst (v := (nI 1)) hx hb dL_law_439 (ic_1) ?_
  refine lv_iadd hx hb dL_law_440 ?_
  refine va_sld hx hb hX hbl hbA hS hn1 dL_law_441 ?_
  refine lv_aload_n hx hb dL_law_442 rfl (lv_at hl 0 rfl) ?_
  refine lv_iload_n hx hb dL_law_443 rfl (lv_at hl 3 rfl) ?_
  refine lv_iconst (v := (nI 2)) hx hb dL_law_444 (ic_2) ?_
  refine lv_iadd hx hb dL_law_445 ?_
  refine va_sld hx hb hX hbl hbA hS hn2 dL_law_446 ?_
  have p1 : List.Perm (WL G ad ado ad7 x0 x1 x2 x3 x4 x5 x6 x7 x8 x9 x10 x11 x12 x13 x14 g) ((wX7 G ad7 g) ++ ((wX6 G ad ado x0) ++ ((wX0 G (ado 1) x1) ++ ((wX0 G (ado 2) x2) ++ ((wX0 G (ado 3) x3) ++ ((wX0 G (ado 4) x4) ++ ((wX4 G (ado 5) x5) ++ ((wX5 G (ado 6) (ado 7 0) x6) ++ ((wX0 G (ado 7) x7) ++ ((wX3 G (ado 8) x8) ++ ((wX1 G (ado 9) (ado 10 0) x9) ++ ((wX0 G (ado 10) x10) ++ ((wX2 G (ado 11) x11) ++ ((wX2 G (ado 12) x12) ++ ((wX2 G (ado 13) x13) ++ (wX2 G (ado 14) x14)))))))))))))))) := catw_perm (as := [0, 1, 2, 3, 4, 5, 6, 7, 8, 9, 10, 11, 12, 13, 14, 15]) (is := [15]) (rs := [0, 1, 2, 3, 4, 5, 6, 7, 8, 9, 10, 11, 12, 13, 14]) (PC G ad ado ad7 (M16 x0 x1 x2 x3 x4 x5 x6 x7 x8 x9 x10 x11 x12 x13 x14 g)) (by decide)
  have p2 : List.Perm (WL G ad ado ad7 x0 x1 x2 x3 x4 x5 x6 x7 x8 x9 x10 x11 x12 x13 x14 g) ((wX7 G ad7 g) ++ ((wX6 G ad ado x0) ++ ((wX0 G (ado 1) x1) ++ ((wX0 G (ado 2) x2) ++ ((wX0 G (ado 3) x3) ++ ((wX0 G (ado 4) x4) ++ ((wX4 G (ado 5) x5) ++ ((wX5 G (ado 6) (ado 7 0) x6) ++ ((wX0 G (ado 7) x7) ++ ((wX3 G (ado 8) x8) ++ ((wX1 G (ado 9) (ado 10 0) x9) ++ ((wX0 G (ado 10) x10) ++ ((wX2 G (ado 11) x11) ++ ((wX2 G (ado 12) x12) ++ ((wX2 G (ado 13) x13) ++ (wX2 G (ado 14) x14)))))))))))))))) := catw_perm (as := [0, 1, 2, 3, 4, 5, 6, 7, 8, 9, 10, 11, 12, 13, 14, 15]) (is := [15]) (rs := [0, 1, 2, 3, 4, 5, 6, 7, 8, 9, 10, 11, 12, 13, 14]) (PC G ad ado ad7 (M16 x0 x1 x2 x3 x4 x5 x6 x7 x8 x9 x10 x11 x12 x13 x14 g)) (by decide)
  have hPc : va_P G.1 vwCl (wX7 G ad7 g) H := va_P_l (va_P_pm p1 hP)
  have hDc : va_D (fun q : Nat => s.heap.size ≤ q) (wX7 G ad7 g) := va_D_l (va_D_pm p1 hD)
  refine cl_i_pm (Wd := (WL G ad ado ad7 x0 x1 x2 x3 x4 x5 x6 x7 x8 x9 x10 x11 x12 x13 x14 g)) (Wc := (wX7 G ad7 g)) (W' := (wX7 G ad7 g)) (W2 := (WL G ad ado ad7 x0 x1 x2 x3 x4 x5 x6 x7 x8 x9 x10 x11 x12 x13 x14 g)) (Wr := ((wX6 G ad ado x0) ++ ((wX0 G (ado 1) x1) ++ ((wX0 G (ado 2) x2) ++ ((wX0 G (ado 3) x3) ++ ((wX0 G (ado 4) x4) ++ ((wX4 G (ado 5) x5) ++ ((wX5 G (ado 6) (ado 7 0) x6) ++ ((wX0 G (ado 7) x7) ++ ((wX3 G (ado 8) x8) ++ ((wX1 G (ado 9) (ado 10 0) x9) ++ ((wX0 G (ado 10) x10) ++ ((wX2 G (ado 11) x11) ++ ((wX2 G (ado 12) x12) ++ ((wX2 G (ado 13) x13) ++ (wX2 G (ado 14) x14)))))))))))))))) p1 p2 (va_runV (As := [.int (xs (nI i + nI 1).toNatClampNeg), .int (xs (nI i + nI 2).toNatClampNeg)]) (rest := [.int r]) hC (c_X7_trade l G ad7 g (xs (nI i + nI 1).toNatClampNeg) (xs (nI i + nI 2).toNatClampNeg) r e2 _) (cwV 2 hts gL_law_X7_trade rfl rfl rfl (by decide +kernel) ⟨Nat.le_of_ble_eq_true rfl, Nat.le_of_ble_eq_true rfl⟩) ⟨Pc0_blind, va_recv hT hPc (q0 := 0) (ci := 7) rfl rfl, fun U hU hW => Pc0_at (Wd := (wX7 G ad7 g)) hE hPc hDc hU hW⟩ rfl rfl hl.1 rfl (lv_room (Nat.le_of_ble_eq_true rfl)) dL_law_447 ⟨Nat.le_of_ble_eq_true rfl, Nat.le_of_ble_eq_true rfl⟩) hS hA hP hD (fun H locs hP hD hS => ?_)
  clear p1 p2 hPc hDc
  refine lv_icmp_eq (tgt := 1766) hx hb dL_law_450 (by decide) (fun _ => ?_) (fun h => absurd rfl h)
  exact kk x0 x1 x2 x3 x4 x5 x6 x7 x8 x9 x10 x11 x12 x13 x14 g H locs Rr hP hD hS
set_option maxHeartbeats 8000000 in
set_option maxRecDepth 100000 in
theorem law_alter (hC : CallFix p m c cL_law 4 s args wsL_law RL) (hE : EV G s) (hZ : SV sk sv (fun q : Nat => s.heap.size ≤ q) s s.heap) (hX : va_X b L xs s s.heap) (hbl : b < s.heap.size) (hi : i + 6 ≤ L) (hL : L ≤ 384) (Rr : Rel x0 x1 x3 x4 x5 x6 x8 x11 x12 x13 x14 g) (hP : va_P G.1 vwCl (WL G ad ado ad7 x0 x1 x2 x3 x4 x5 x6 x7 x8 x9 x10 x11 x12 x13 x14 g) H) (hD : va_D (fun q : Nat => s.heap.size ≤ q) (WL G ad ado ad7 x0 x1 x2 x3 x4 x5 x6 x7 x8 x9 x10 x11 x12 x13 x14 g)) (hS : va_S (fun q : Nat => s.heap.size ≤ q) s.heap H locs) (hl : lv_has ls 4 [(0, .ref b), (1, .ref (ad 0)), (2, .ref (ad7 0)), (3, .int (nI i))]) (kk : GoOn p l e s m args below meth c G ad ado ad7 ls Q) : W p l e room_1 s m args below meth c H locs 100 2657 Q (F0 m 455 ls []) := by
  have hA : ∀ q : Nat, s.heap.size ≤ q → (fun q : Nat => s.heap.size ≤ q) q := fun _ h => h
  have hbA : ¬ (fun q : Nat => s.heap.size ≤ q) b := Nat.not_le.mpr hbl
  obtain ⟨hx, hb, hml, hown, hts⟩ := id hC
  have hT : va_K G.1 vwCl (tyL G) s := hE.1
  have hn1 : vp_in (nI i + nI 1) L := by rw [nI_add]; exact vp_in_nI (by omega) (by omega)
  have hn2 : vp_in (nI i + nI 2) L := by rw [nI_add]; exact vp_in_nI (by omega) (by omega)
  have hn3 : vp_in (nI i + nI 3) L := by rw [nI_add]; exact vp_in_nI (by omega) (by omega)
  obtain ⟨r, x1', g', e1, e2, Rr'⟩ := op_alter Rr (xs (nI i + nI 1).toNatClampNeg) (xs (nI i + nI 2).toNatClampNeg) (xs (nI i + nI 3).toNatClampNeg)
  refine lv_aload_n hx hb dL_law_455 rfl (lv_at hl 1 rfl) ?_
  refine lv_aload_n hx hb dL_law_456 rfl (lv_at hl 0 rfl) ?_
  refine lv_iload_n hx hb dL_law_457 rfl (lv_at hl 3 rfl) ?_
  refine lv_iconst (v := (nI 1)) hx hb dL_law_458 (ic_1) ?_
  refine lv_iadd hx hb dL_law_459 ?_
  refine va_sld hx hb hX hbl hbA hS hn1 dL_law_460 ?_
  refine lv_aload_n hx hb dL_law_461 rfl (lv_at hl 0 rfl) ?_
  refine lv_iload_n hx hb dL_law_462 rfl (lv_at hl 3 rfl) ?_
  refine lv_iconst (v := (nI 2)) hx hb dL_law_463 (ic_2) ?_
  refine lv_iadd hx hb dL_law_464 ?_
  refine va_sld hx hb hX hbl hbA hS hn2 dL_law_465 ?_
  refine lv_aload_n hx hb dL_law_466 rfl (lv_at hl 0 rfl) ?_
  refine lv_iload_n hx hb dL_law_467 rfl (lv_at hl 3 rfl) ?_
  refine lv_iconst (v := (nI 3)) hx hb dL_law_468 (ic_3) ?_
  refine lv_iadd hx hb dL_law_469 ?_
  refine va_sld hx hb hX hbl hbA hS hn3 dL_law_470 ?_
  have p1 : List.Perm (WL G ad ado ad7 x0 x1 x2 x3 x4 x5 x6 x7 x8 x9 x10 x11 x12 x13 x14 g) (((wX6 G ad ado x0) ++ (wX0 G (ado 1) x1)) ++ ((wX0 G (ado 2) x2) ++ ((wX0 G (ado 3) x3) ++ ((wX0 G (ado 4) x4) ++ ((wX4 G (ado 5) x5) ++ ((wX5 G (ado 6) (ado 7 0) x6) ++ ((wX0 G (ado 7) x7) ++ ((wX3 G (ado 8) x8) ++ ((wX1 G (ado 9) (ado 10 0) x9) ++ ((wX0 G (ado 10) x10) ++ ((wX2 G (ado 11) x11) ++ ((wX2 G (ado 12) x12) ++ ((wX2 G (ado 13) x13) ++ ((wX2 G (ado 14) x14) ++ (wX7 G ad7 g))))))))))))))) := catw_perm (as := [0, 1, 2, 3, 4, 5, 6, 7, 8, 9, 10, 11, 12, 13, 14, 15]) (is := [0, 1]) (rs := [2, 3, 4, 5, 6, 7, 8, 9, 10, 11, 12, 13, 14, 15]) (PC G ad ado ad7 (M16 x0 x1 x2 x3 x4 x5 x6 x7 x8 x9 x10 x11 x12 x13 x14 g)) (by decide)
  have p2 : List.Perm (WL G ad ado ad7 x0 x1' x2 x3 x4 x5 x6 x7 x8 x9 x10 x11 x12 x13 x14 g) (((wX6 G ad ado x0) ++ (wX0 G (ado 1) x1')) ++ ((wX0 G (ado 2) x2) ++ ((wX0 G (ado 3) x3) ++ ((wX0 G (ado 4) x4) ++ ((wX4 G (ado 5) x5) ++ ((wX5 G (ado 6) (ado 7 0) x6) ++ ((wX0 G (ado 7) x7) ++ ((wX3 G (ado 8) x8) ++ ((wX1 G (ado 9) (ado 10 0) x9) ++ ((wX0 G (ado 10) x10) ++ ((wX2 G (ado 11) x11) ++ ((wX2 G (ado 12) x12) ++ ((wX2 G (ado 13) x13) ++ ((wX2 G (ado 14) x14) ++ (wX7 G ad7 g))))))))))))))) := catw_perm (as := [0, 1, 2, 3, 4, 5, 6, 7, 8, 9, 10, 11, 12, 13, 14, 15]) (is := [0, 1]) (rs := [2, 3, 4, 5, 6, 7, 8, 9, 10, 11, 12, 13, 14, 15]) (PC G ad ado ad7 (M16 x0 x1' x2 x3 x4 x5 x6 x7 x8 x9 x10 x11 x12 x13 x14 g)) (by decide)
  have hPc : va_P G.1 vwCl ((wX6 G ad ado x0) ++ (wX0 G (ado 1) x1)) H := va_P_l (va_P_pm p1 hP)
  have hDc : va_D (fun q : Nat => s.heap.size ≤ q) ((wX6 G ad ado x0) ++ (wX0 G (ado 1) x1)) := va_D_l (va_D_pm p1 hD)
  refine cl_i_pm (Wd := (WL G ad ado ad7 x0 x1 x2 x3 x4 x5 x6 x7 x8 x9 x10 x11 x12 x13 x14 g)) (Wc := ((wX6 G ad ado x0) ++ (wX0 G (ado 1) x1))) (W' := ((wX6 G ad ado x0) ++ (wX0 G (ado 1) x1'))) (W2 := (WL G ad ado ad7 x0 x1' x2 x3 x4 x5 x6 x7 x8 x9 x10 x11 x12 x13 x14 g)) (Wr := ((wX0 G (ado 2) x2) ++ ((wX0 G (ado 3) x3) ++ ((wX0 G (ado 4) x4) ++ ((wX4 G (ado 5) x5) ++ ((wX5 G (ado 6) (ado 7 0) x6) ++ ((wX0 G (ado 7) x7) ++ ((wX3 G (ado 8) x8) ++ ((wX1 G (ado 9) (ado 10 0) x9) ++ ((wX0 G (ado 10) x10) ++ ((wX2 G (ado 11) x11) ++ ((wX2 G (ado 12) x12) ++ ((wX2 G (ado 13) x13) ++ ((wX2 G (ado 14) x14) ++ (wX7 G ad7 g))))))))))))))) p1 p2 (va_runV (As := [.int (xs (nI i + nI 1).toNatClampNeg), .int (xs (nI i + nI 2).toNatClampNeg), .int (xs (nI i + nI 3).toNatClampNeg)]) (rest := []) hC (c_X6_alter l G ad ado x0 x1 (xs (nI i + nI 1).toNatClampNeg) (xs (nI i + nI 2).toNatClampNeg) (xs (nI i + nI 3).toNatClampNeg) r x1' e1 _) (cwV 3 hts gL_law_X6_alter rfl rfl rfl (by decide +kernel) ⟨Nat.le_of_ble_eq_true rfl, Nat.le_of_ble_eq_true rfl⟩) ⟨Pc0_blind, va_recv hT hPc (q0 := 0) (ci := 6) rfl rfl, fun U hU hW => Pc0_at (Wd := ((wX6 G ad ado x0) ++ (wX0 G (ado 1) x1))) hE hPc hDc hU hW⟩ rfl rfl hl.1 rfl (lv_room (Nat.le_of_ble_eq_true rfl)) dL_law_471 ⟨Nat.le_of_ble_eq_true rfl, Nat.le_of_ble_eq_true rfl⟩) hS hA hP hD (fun H locs hP hD hS => ?_)
  clear p1 p2 hPc hDc
  refine lv_aload_n hx hb dL_law_474 rfl (lv_at hl 2 rfl) ?_
  refine lv_aload_n hx hb dL_law_475 rfl (lv_at hl 0 rfl) ?_
  refine lv_iload_n hx hb dL_law_476 rfl (lv_at hl 3 rfl) ?_
  refine lv_iconst (v := (nI 1)) hx hb dL_law_477 (ic_1) ?_
  refine lv_iadd hx hb dL_law_478 ?_
  refine va_sld hx hb hX hbl hbA hS hn1 dL_law_479 ?_
  refine lv_aload_n hx hb dL_law_480 rfl (lv_at hl 0 rfl) ?_
  refine lv_iload_n hx hb dL_law_481 rfl (lv_at hl 3 rfl) ?_
  refine lv_iconst (v := (nI 2)) hx hb dL_law_482 (ic_2) ?_
  refine lv_iadd hx hb dL_law_483 ?_
  refine va_sld hx hb hX hbl hbA hS hn2 dL_law_484 ?_
  refine lv_aload_n hx hb dL_law_485 rfl (lv_at hl 0 rfl) ?_
  refine lv_iload_n hx hb dL_law_486 rfl (lv_at hl 3 rfl) ?_
  refine lv_iconst (v := (nI 3)) hx hb dL_law_487 (ic_3) ?_
  refine lv_iadd hx hb dL_law_488 ?_
  refine va_sld hx hb hX hbl hbA hS hn3 dL_law_489 ?_
  have p1 : List.Perm (WL G ad ado ad7 x0 x1' x2 x3 x4 x5 x6 x7 x8 x9 x10 x11 x12 x13 x14 g) ((wX7 G ad7 g) ++ ((wX6 G ad ado x0) ++ ((wX0 G (ado 1) x1') ++ ((wX0 G (ado 2) x2) ++ ((wX0 G (ado 3) x3) ++ ((wX0 G (ado 4) x4) ++ ((wX4 G (ado 5) x5) ++ ((wX5 G (ado 6) (ado 7 0) x6) ++ ((wX0 G (ado 7) x7) ++ ((wX3 G (ado 8) x8) ++ ((wX1 G (ado 9) (ado 10 0) x9) ++ ((wX0 G (ado 10) x10) ++ ((wX2 G (ado 11) x11) ++ ((wX2 G (ado 12) x12) ++ ((wX2 G (ado 13) x13) ++ (wX2 G (ado 14) x14)))))))))))))))) := catw_perm (as := [0, 1, 2, 3, 4, 5, 6, 7, 8, 9, 10, 11, 12, 13, 14, 15]) (is := [15]) (rs := [0, 1, 2, 3, 4, 5, 6, 7, 8, 9, 10, 11, 12, 13, 14]) (PC G ad ado ad7 (M16 x0 x1' x2 x3 x4 x5 x6 x7 x8 x9 x10 x11 x12 x13 x14 g)) (by decide)
  have p2 : List.Perm (WL G ad ado ad7 x0 x1' x2 x3 x4 x5 x6 x7 x8 x9 x10 x11 x12 x13 x14 g') ((wX7 G ad7 g') ++ ((wX6 G ad ado x0) ++ ((wX0 G (ado 1) x1') ++ ((wX0 G (ado 2) x2) ++ ((wX0 G (ado 3) x3) ++ ((wX0 G (ado 4) x4) ++ ((wX4 G (ado 5) x5) ++ ((wX5 G (ado 6) (ado 7 0) x6) ++ ((wX0 G (ado 7) x7) ++ ((wX3 G (ado 8) x8) ++ ((wX1 G (ado 9) (ado 10 0) x9) ++ ((wX0 G (ado 10) x10) ++ ((wX2 G (ado 11) x11) ++ ((wX2 G (ado 12) x12) ++ ((wX2 G (ado 13) x13) ++ (wX2 G (ado 14) x14)))))))))))))))) := catw_perm (as := [0, 1, 2, 3, 4, 5, 6, 7, 8, 9, 10, 11, 12, 13, 14, 15]) (is := [15]) (rs := [0, 1, 2, 3, 4, 5, 6, 7, 8, 9, 10, 11, 12, 13, 14]) (PC G ad ado ad7 (M16 x0 x1' x2 x3 x4 x5 x6 x7 x8 x9 x10 x11 x12 x13 x14 g')) (by decide)
  have hPc : va_P G.1 vwCl (wX7 G ad7 g) H := va_P_l (va_P_pm p1 hP)
  have hDc : va_D (fun q : Nat => s.heap.size ≤ q) (wX7 G ad7 g) := va_D_l (va_D_pm p1 hD)
  refine cl_i_pm (Wd := (WL G ad ado ad7 x0 x1' x2 x3 x4 x5 x6 x7 x8 x9 x10 x11 x12 x13 x14 g)) (Wc := (wX7 G ad7 g)) (W' := (wX7 G ad7 g')) (W2 := (WL G ad ado ad7 x0 x1' x2 x3 x4 x5 x6 x7 x8 x9 x10 x11 x12 x13 x14 g')) (Wr := ((wX6 G ad ado x0) ++ ((wX0 G (ado 1) x1') ++ ((wX0 G (ado 2) x2) ++ ((wX0 G (ado 3) x3) ++ ((wX0 G (ado 4) x4) ++ ((wX4 G (ado 5) x5) ++ ((wX5 G (ado 6) (ado 7 0) x6) ++ ((wX0 G (ado 7) x7) ++ ((wX3 G (ado 8) x8) ++ ((wX1 G (ado 9) (ado 10 0) x9) ++ ((wX0 G (ado 10) x10) ++ ((wX2 G (ado 11) x11) ++ ((wX2 G (ado 12) x12) ++ ((wX2 G (ado 13) x13) ++ (wX2 G (ado 14) x14)))))))))))))))) p1 p2 (va_runV (As := [.int (xs (nI i + nI 1).toNatClampNeg), .int (xs (nI i + nI 2).toNatClampNeg), .int (xs (nI i + nI 3).toNatClampNeg)]) (rest := [.int r]) hC (c_X7_alter l G ad7 g (xs (nI i + nI 1).toNatClampNeg) (xs (nI i + nI 2).toNatClampNeg) (xs (nI i + nI 3).toNatClampNeg) r g' e2 _) (cwV 3 hts gL_law_X7_alter rfl rfl rfl (by decide +kernel) ⟨Nat.le_of_ble_eq_true rfl, Nat.le_of_ble_eq_true rfl⟩) ⟨Pc0_blind, va_recv hT hPc (q0 := 0) (ci := 7) rfl rfl, fun U hU hW => Pc0_at (Wd := (wX7 G ad7 g)) hE hPc hDc hU hW⟩ rfl rfl hl.1 rfl (lv_room (Nat.le_of_ble_eq_true rfl)) dL_law_490 ⟨Nat.le_of_ble_eq_true rfl, Nat.le_of_ble_eq_true rfl⟩) hS hA hP hD (fun H locs hP hD hS => ?_)
  clear p1 p2 hPc hDc
  refine lv_icmp_eq (tgt := 1766) hx hb dL_law_493 (by decide) (fun _ => ?_) (fun h => absurd rfl h)
  exact kk x0 x1' x2 x3 x4 x5 x6 x7 x8 x9 x10 x11 x12 x13 x14 g' H locs Rr' hP hD hS
end LAWC

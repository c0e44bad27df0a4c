/-! ===== the law's loop: what each call does to both ===== -/
section LAWC
variable {p : Program} {l : Launch} {e : Env} {s : State} {m : MethodId} {args : Array Value} {below : List Frame} {meth : Method} {c : Code} {G : Gt} {ad ad7 : Nat → Nat} {ado : Nat → Nat → Nat} {sk sv : Nat → Nat} {b L i : Nat} {xs : Nat → Int32} {x0 x1 x2 x3 x4 x5 x6 x7 x8 x9 x10 x11 x12 x13 x14 g : Mem} {H : Heap} {locs : List Loc} {ls : Array Slot} {Q : State → Prop}
set_option maxHeartbeats 8000000 in
set_option maxRecDepth 100000 in
theorem law_eggs (hC : CallFix p m c cL_law 4 s args wsL_law RL) (hE : EV G s) (hZ : SV sk sv (fun q : Nat => s.heap.size ≤ q) s s.heap) (hX : va_X b L xs s s.heap) (hbl : b < s.heap.size) (hi : i + 6 ≤ L) (hL : L ≤ 384) (Rr : Rel x0 x1 x3 x4 x5 x6 x8 x11 x12 x13 x14 g) (hP : va_P G.1 vwCl (WL G ad ado ad7 x0 x1 x2 x3 x4 x5 x6 x7 x8 x9 x10 x11 x12 x13 x14 g) H) (hD : va_D (fun q : Nat => s.heap.size ≤ q) (WL G ad ado ad7 x0 x1 x2 x3 x4 x5 x6 x7 x8 x9 x10 x11 x12 x13 x14 g)) (hS : va_S (fun q : Nat => s.heap.size ≤ q) s.heap H locs) (hl : lv_has ls 4 [(0, .ref b), (1, .ref (ad 0)), (2, .ref (ad7 0)), (3, .int (nI i))]) (kk : GoOn p l e s m args below meth c G ad ado ad7 ls Q) : W p l e room_1 s m args below meth c H locs 100 2657 Q (F0 m 878 ls []) := by
  have hA : ∀ q : Nat, s.heap.size ≤ q → (fun q : Nat => s.heap.size ≤ q) q := fun _ h => h
  have hbA : ¬ (fun q : Nat => s.heap.size ≤ q) b := Nat.not_le.mpr hbl
  obtain ⟨hx, hb, hml, hown, hts⟩ := id hC
  have hT : va_K G.1 vwCl (tyL G) s := hE.1
  have hn1 : vp_in (nI i + nI 1) L := by rw [nI_add]; exact vp_in_nI (by omega) (by omega)
  have hn2 : vp_in (nI i + nI 2) L := by rw [nI_add]; exact vp_in_nI (by omega) (by omega)
  obtain ⟨r, x2', g', e1, e2, Rr'⟩ := op_eggs Rr x2 (xs (nI i + nI 1).toNatClampNeg) (xs (nI i + nI 2).toNatClampNeg)
  refine lv_aload_n hx hb dL_law_878 rfl (lv_at hl 1 rfl) ?_
  refine lv_aload_n hx hb dL_law_879 rfl (lv_at hl 0 rfl) ?_
  refine lv_iload_n hx hb dL_law_880 rfl (lv_at hl 3 rfl) ?_
  refine lv_iconst (v := (nI 1)) hx hb dL_law_881 (ic_1) ?_
  refine lv_iadd hx hb dL_law_882 ?_
  refine va_sld hx hb hX hbl hbA hS hn1 dL_law_883 ?_
  refine lv_aload_n hx hb dL_law_884 rfl (lv_at hl 0 rfl) ?_
  refine lv_iload_n hx hb dL_law_885 rfl (lv_at hl 3 rfl) ?_
  refine lv_iconst (v := (nI 2)) hx hb dL_law_886 (ic_2) ?_
  refine lv_iadd hx hb dL_law_887 ?_
  refine va_sld hx hb hX hbl hbA hS hn2 dL_law_888 ?_
  have p1 : List.Perm (WL G ad ado ad7 x0 x1 x2 x3 x4 x5 x6 x7 x8 x9 x10 x11 x12 x13 x14 g) (((wX6 G ad ado x0) ++ ((wX0 G (ado 1) x1) ++ (wX0 G (ado 2) x2))) ++ ((wX0 G (ado 3) x3) ++ ((wX0 G (ado 4) x4) ++ ((wX4 G (ado 5) x5) ++ ((wX5 G (ado 6) (ado 7 0) x6) ++ ((wX0 G (ado 7) x7) ++ ((wX3 G (ado 8) x8) ++ ((wX1 G (ado 9) (ado 10 0) x9) ++ ((wX0 G (ado 10) x10) ++ ((wX2 G (ado 11) x11) ++ ((wX2 G (ado 12) x12) ++ ((wX2 G (ado 13) x13) ++ ((wX2 G (ado 14) x14) ++ (wX7 G ad7 g)))))))))))))) := catw_perm (as := [0, 1, 2, 3, 4, 5, 6, 7, 8, 9, 10, 11, 12, 13, 14, 15]) (is := [0, 1, 2]) (rs := [3, 4, 5, 6, 7, 8, 9, 10, 11, 12, 13, 14, 15]) (PC G ad ado ad7 (M16 x0 x1 x2 x3 x4 x5 x6 x7 x8 x9 x10 x11 x12 x13 x14 g)) (by decide)
  have p2 : List.Perm (WL G ad ado ad7 x0 x1 x2' x3 x4 x5 x6 x7 x8 x9 x10 x11 x12 x13 x14 g) (((wX6 G ad ado x0) ++ ((wX0 G (ado 1) x1) ++ (wX0 G (ado 2) x2'))) ++ ((wX0 G (ado 3) x3) ++ ((wX0 G (ado 4) x4) ++ ((wX4 G (ado 5) x5) ++ ((wX5 G (ado 6) (ado 7 0) x6) ++ ((wX0 G (ado 7) x7) ++ ((wX3 G (ado 8) x8) ++ ((wX1 G (ado 9) (ado 10 0) x9) ++ ((wX0 G (ado 10) x10) ++ ((wX2 G (ado 11) x11) ++ ((wX2 G (ado 12) x12) ++ ((wX2 G (ado 13) x13) ++ ((wX2 G (ado 14) x14) ++ (wX7 G ad7 g)))))))))))))) := catw_perm (as := [0, 1, 2, 3, 4, 5, 6, 7, 8, 9, 10, 11, 12, 13, 14, 15]) (is := [0, 1, 2]) (rs := [3, 4, 5, 6, 7, 8, 9, 10, 11, 12, 13, 14, 15]) (PC G ad ado ad7 (M16 x0 x1 x2' x3 x4 x5 x6 x7 x8 x9 x10 x11 x12 x13 x14 g)) (by decide)
  have hPc : va_P G.1 vwCl ((wX6 G ad ado x0) ++ ((wX0 G (ado 1) x1) ++ (wX0 G (ado 2) x2))) H := va_P_l (va_P_pm p1 hP)
  have hDc : va_D (fun q : Nat => s.heap.size ≤ q) ((wX6 G ad ado x0) ++ ((wX0 G (ado 1) x1) ++ (wX0 G (ado 2) x2))) := va_D_l (va_D_pm p1 hD)
  refine cl_i_pm (Wd := (WL G ad ado ad7 x0 x1 x2 x3 x4 x5 x6 x7 x8 x9 x10 x11 x12 x13 x14 g)) (Wc := ((wX6 G ad ado x0) ++ ((wX0 G (ado 1) x1) ++ (wX0 G (ado 2) x2)))) (W' := ((wX6 G ad ado x0) ++ ((wX0 G (ado 1) x1) ++ (wX0 G (ado 2) x2')))) (W2 := (WL G ad ado ad7 x0 x1 x2' x3 x4 x5 x6 x7 x8 x9 x10 x11 x12 x13 x14 g)) (Wr := ((wX0 G (ado 3) x3) ++ ((wX0 G (ado 4) x4) ++ ((wX4 G (ado 5) x5) ++ ((wX5 G (ado 6) (ado 7 0) x6) ++ ((wX0 G (ado 7) x7) ++ ((wX3 G (ado 8) x8) ++ ((wX1 G (ado 9) (ado 10 0) x9) ++ ((wX0 G (ado 10) x10) ++ ((wX2 G (ado 11) x11) ++ ((wX2 G (ado 12) x12) ++ ((wX2 G (ado 13) x13) ++ ((wX2 G (ado 14) x14) ++ (wX7 G ad7 g)))))))))))))) p1 p2 (va_runV (As := [.int (xs (nI i + nI 1).toNatClampNeg), .int (xs (nI i + nI 2).toNatClampNeg)]) (rest := []) hC (c_X6_eggs l G ad ado x0 x1 x2 (xs (nI i + nI 1).toNatClampNeg) (xs (nI i + nI 2).toNatClampNeg) r x2' e1 _) (cwV 2 hts gL_law_X6_eggs rfl rfl rfl (by decide +kernel) ⟨Nat.le_of_ble_eq_true rfl, Nat.le_of_ble_eq_true rfl⟩) ⟨Pc0_blind, va_recv hT hPc (q0 := 0) (ci := 6) rfl rfl, fun U hU hW => Pc0_at (Wd := ((wX6 G ad ado x0) ++ ((wX0 G (ado 1) x1) ++ (wX0 G (ado 2) x2)))) hE hPc hDc hU hW⟩ rfl rfl hl.1 rfl (lv_room (Nat.le_of_ble_eq_true rfl)) dL_law_889 ⟨Nat.le_of_ble_eq_true rfl, Nat.le_of_ble_eq_true rfl⟩) hS hA hP hD (fun H locs hP hD hS => ?_)
  clear p1 p2 hPc hDc
  refine lv_aload_n hx hb dL_law_892 rfl (lv_at hl 2 rfl) ?_
  refine lv_aload_n hx hb dL_law_893 rfl (lv_at hl 0 rfl) ?_
  refine lv_iload_n hx hb dL_law_894 rfl (lv_at hl 3 rfl) ?_
  refine lv_iconst (v := (nI 1)) hx hb dL_law_895 (ic_1) ?_
  refine lv_iadd hx hb dL_law_896 ?_
  refine va_sld hx hb hX hbl hbA hS hn1 dL_law_897 ?_
  refine lv_aload_n hx hb dL_law_898 rfl (lv_at hl 0 rfl) ?_
  refine lv_iload_n hx hb dL_law_899 rfl (lv_at hl 3 rfl) ?_
  refine lv_iconst (v := (nI 2)) hx hb dL_law_900 (ic_2) ?_
  refine lv_iadd hx hb dL_law_901 ?_
  refine va_sld hx hb hX hbl hbA hS hn2 dL_law_902 ?_
  have p1 : List.Perm (WL G ad ado ad7 x0 x1 x2' x3 x4 x5 x6 x7 x8 x9 x10 x11 x12 x13 x14 g) ((wX7 G ad7 g) ++ ((wX6 G ad ado x0) ++ ((wX0 G (ado 1) x1) ++ ((wX0 G (ado 2) x2') ++ ((wX0 G (ado 3) x3) ++ ((wX0 G (ado 4) x4) ++ ((wX4 G (ado 5) x5) ++ ((wX5 G (ado 6) (ado 7 0) x6) ++ ((wX0 G (ado 7) x7) ++ ((wX3 G (ado 8) x8) ++ ((wX1 G (ado 9) (ado 10 0) x9) ++ ((wX0 G (ado 10) x10) ++ ((wX2 G (ado 11) x11) ++ ((wX2 G (ado 12) x12) ++ ((wX2 G (ado 13) x13) ++ (wX2 G (ado 14) x14)))))))))))))))) := catw_perm (as := [0, 1, 2, 3, 4, 5, 6, 7, 8, 9, 10, 11, 12, 13, 14, 15]) (is := [15]) (rs := [0, 1, 2, 3, 4, 5, 6, 7, 8, 9, 10, 11, 12, 13, 14]) (PC G ad ado ad7 (M16 x0 x1 x2' x3 x4 x5 x6 x7 x8 x9 x10 x11 x12 x13 x14 g)) (by decide)
  have p2 : List.Perm (WL G ad ado ad7 x0 x1 x2' x3 x4 x5 x6 x7 x8 x9 x10 x11 x12 x13 x14 g') ((wX7 G ad7 g') ++ ((wX6 G ad ado x0) ++ ((wX0 G (ado 1) x1) ++ ((wX0 G (ado 2) x2') ++ ((wX0 G (ado 3) x3) ++ ((wX0 G (ado 4) x4) ++ ((wX4 G (ado 5) x5) ++ ((wX5 G (ado 6) (ado 7 0) x6) ++ ((wX0 G (ado 7) x7) ++ ((wX3 G (ado 8) x8) ++ ((wX1 G (ado 9) (ado 10 0) x9) ++ ((wX0 G (ado 10) x10) ++ ((wX2 G (ado 11) x11) ++ ((wX2 G (ado 12) x12) ++ ((wX2 G (ado 13) x13) ++ (wX2 G (ado 14) x14)))))))))))))))) := catw_perm (as := [0, 1, 2, 3, 4, 5, 6, 7, 8, 9, 10, 11, 12, 13, 14, 15]) (is := [15]) (rs := [0, 1, 2, 3, 4, 5, 6, 7, 8, 9, 10, 11, 12, 13, 14]) (PC G ad ado ad7 (M16 x0 x1 x2' x3 x4 x5 x6 x7 x8 x9 x10 x11 x12 x13 x14 g')) (by decide)
  have hPc : va_P G.1 vwCl (wX7 G ad7 g) H := va_P_l (va_P_pm p1 hP)
  have hDc : va_D (fun q : Nat => s.heap.size ≤ q) (wX7 G ad7 g) := va_D_l (va_D_pm p1 hD)
  refine cl_i_pm (Wd := (WL G ad ado ad7 x0 x1 x2' x3 x4 x5 x6 x7 x8 x9 x10 x11 x12 x13 x14 g)) (Wc := (wX7 G ad7 g)) (W' := (wX7 G ad7 g')) (W2 := (WL G ad ado ad7 x0 x1 x2' x3 x4 x5 x6 x7 x8 x9 x10 x11 x12 x13 x14 g')) (Wr := ((wX6 G ad ado x0) ++ ((wX0 G (ado 1) x1) ++ ((wX0 G (ado 2) x2') ++ ((wX0 G (ado 3) x3) ++ ((wX0 G (ado 4) x4) ++ ((wX4 G (ado 5) x5) ++ ((wX5 G (ado 6) (ado 7 0) x6) ++ ((wX0 G (ado 7) x7) ++ ((wX3 G (ado 8) x8) ++ ((wX1 G (ado 9) (ado 10 0) x9) ++ ((wX0 G (ado 10) x10) ++ ((wX2 G (ado 11) x11) ++ ((wX2 G (ado 12) x12) ++ ((wX2 G (ado 13) x13) ++ (wX2 G (ado 14) x14)))))))))))))))) p1 p2 (va_runV (As := [.int (xs (nI i + nI 1).toNatClampNeg), .int (xs (nI i + nI 2).toNatClampNeg)]) (rest := [.int r]) hC (c_X7_eggs l G ad7 g (xs (nI i + nI 1).toNatClampNeg) (xs (nI i + nI 2).toNatClampNeg) r g' e2 _) (cwV 2 hts gL_law_X7_eggs rfl rfl rfl (by decide +kernel) ⟨Nat.le_of_ble_eq_true rfl, Nat.le_of_ble_eq_true rfl⟩) ⟨Pc0_blind, va_recv hT hPc (q0 := 0) (ci := 7) rfl rfl, fun U hU hW => Pc0_at (Wd := (wX7 G ad7 g)) hE hPc hDc hU hW⟩ rfl rfl hl.1 rfl (lv_room (Nat.le_of_ble_eq_true rfl)) dL_law_903 ⟨Nat.le_of_ble_eq_true rfl, Nat.le_of_ble_eq_true rfl⟩) hS hA hP hD (fun H locs hP hD hS => ?_)
  clear p1 p2 hPc hDc
  refine lv_icmp_eq (tgt := 1766) hx hb dL_law_906 (by decide) (fun _ => ?_) (fun h => absurd rfl h)
  exact kk x0 x1 x2' x3 x4 x5 x6 x7 x8 x9 x10 x11 x12 x13 x14 g' H locs Rr' hP hD hS
set_option maxHeartbeats 8000000 in
set_option maxRecDepth 100000 in
theorem law_bare (hC : CallFix p m c cL_law 4 s args wsL_law RL) (hE : EV G s) (hZ : SV sk sv (fun q : Nat => s.heap.size ≤ q) s s.heap) (hX : va_X b L xs s s.heap) (hbl : b < s.heap.size) (hi : i + 6 ≤ L) (hL : L ≤ 384) (Rr : Rel x0 x1 x3 x4 x5 x6 x8 x11 x12 x13 x14 g) (hP : va_P G.1 vwCl (WL G ad ado ad7 x0 x1 x2 x3 x4 x5 x6 x7 x8 x9 x10 x11 x12 x13 x14 g) H) (hD : va_D (fun q : Nat => s.heap.size ≤ q) (WL G ad ado ad7 x0 x1 x2 x3 x4 x5 x6 x7 x8 x9 x10 x11 x12 x13 x14 g)) (hS : va_S (fun q : Nat => s.heap.size ≤ q) s.heap H locs) (hl : lv_has ls 4 [(0, .ref b), (1, .ref (ad 0)), (2, .ref (ad7 0)), (3, .int (nI i))]) (kk : GoOn p l e s m args below meth c G ad ado ad7 ls Q) : W p l e room_1 s m args below meth c H locs 100 2657 Q (F0 m 911 ls []) := by
  have hA : ∀ q : Nat, s.heap.size ≤ q → (fun q : Nat => s.heap.size ≤ q) q := fun _ h => h
  have hbA : ¬ (fun q : Nat => s.heap.size ≤ q) b := Nat.not_le.mpr hbl
  obtain ⟨hx, hb, hml, hown, hts⟩ := id hC
  have hT : va_K G.1 vwCl (tyL G) s := hE.1
  have hn1 : vp_in (nI i + nI 1) L := by rw [nI_add]; exact vp_in_nI (by omega) (by omega)
  have hn2 : vp_in (nI i + nI 2) L := by rw [nI_add]; exact vp_in_nI (by omega) (by omega)
  obtain ⟨r, x2', g', e1, e2, Rr'⟩ := op_bare Rr x2 (xs (nI i + nI 1).toNatClampNeg) (xs (nI i + nI 2).toNatClampNeg)
  refine lv_aload_n hx hb dL_law_911 rfl (lv_at hl 1 rfl) ?_
  refine lv_aload_n hx hb dL_law_912 rfl (lv_at hl 0 rfl) ?_
  refine lv_iload_n hx hb dL_law_913 rfl (lv_at hl 3 rfl) ?_
  refine lv_iconst (v := (nI 1)) hx hb dL_law_914 (ic_1) ?_
  refine lv_iadd hx hb dL_law_915 ?_
  refine va_sld hx hb hX hbl hbA hS hn1 dL_law_916 ?_
  refine lv_aload_n hx hb dL_law_917 rfl (lv_at hl 0 rfl) ?_
  refine lv_iload_n hx hb dL_law_918 rfl (lv_at hl 3 rfl) ?_
  refine lv_iconst (v := (nI 2)) hx hb dL_law_919 (ic_2) ?_
  refine lv_iadd hx hb dL_law_920 ?_
  refine va_sld hx hb hX hbl hbA hS hn2 dL_law_921 ?_
  have p1 : List.Perm (WL G ad ado ad7 x0 x1 x2 x3 x4 x5 x6 x7 x8 x9 x10 x11 x12 x13 x14 g) (((wX6 G ad ado x0) ++ ((wX0 G (ado 1) x1) ++ (wX0 G (ado 2) x2))) ++ ((wX0 G (ado 3) x3) ++ ((wX0 G (ado 4) x4) ++ ((wX4 G (ado 5) x5) ++ ((wX5 G (ado 6) (ado 7 0) x6) ++ ((wX0 G (ado 7) x7) ++ ((wX3 G (ado 8) x8) ++ ((wX1 G (ado 9) (ado 10 0) x9) ++ ((wX0 G (ado 10) x10) ++ ((wX2 G (ado 11) x11) ++ ((wX2 G (ado 12) x12) ++ ((wX2 G (ado 13) x13) ++ ((wX2 G (ado 14) x14) ++ (wX7 G ad7 g)))))))))))))) := catw_perm (as := [0, 1, 2, 3, 4, 5, 6, 7, 8, 9, 10, 11, 12, 13, 14, 15]) (is := [0, 1, 2]) (rs := [3, 4, 5, 6, 7, 8, 9, 10, 11, 12, 13, 14, 15]) (PC G ad ado ad7 (M16 x0 x1 x2 x3 x4 x5 x6 x7 x8 x9 x10 x11 x12 x13 x14 g)) (by decide)
  have p2 : List.Perm (WL G ad ado ad7 x0 x1 x2' x3 x4 x5 x6 x7 x8 x9 x10 x11 x12 x13 x14 g) (((wX6 G ad ado x0) ++ ((wX0 G (ado 1) x1) ++ (wX0 G (ado 2) x2'))) ++ ((wX0 G (ado 3) x3) ++ ((wX0 G (ado 4) x4) ++ ((wX4 G (ado 5) x5) ++ ((wX5 G (ado 6) (ado 7 0) x6) ++ ((wX0 G (ado 7) x7) ++ ((wX3 G (ado 8) x8) ++ ((wX1 G (ado 9) (ado 10 0) x9) ++ ((wX0 G (ado 10) x10) ++ ((wX2 G (ado 11) x11) ++ ((wX2 G (ado 12) x12) ++ ((wX2 G (ado 13) x13) ++ ((wX2 G (ado 14) x14) ++ (wX7 G ad7 g)))))))))))))) := catw_perm (as := [0, 1, 2, 3, 4, 5, 6, 7, 8, 9, 10, 11, 12, 13, 14, 15]) (is := [0, 1, 2]) (rs := [3, 4, 5, 6, 7, 8, 9, 10, 11, 12, 13, 14, 15]) (PC G ad ado ad7 (M16 x0 x1 x2' x3 x4 x5 x6 x7 x8 x9 x10 x11 x12 x13 x14 g)) (by decide)
  have hPc : va_P G.1 vwCl ((wX6 G ad ado x0) ++ ((wX0 G (ado 1) x1) ++ (wX0 G (ado 2) x2))) H := va_P_l (va_P_pm p1 hP)
  have hDc : va_D (fun q : Nat => s.heap.size ≤ q) ((wX6 G ad ado x0) ++ ((wX0 G (ado 1) x1) ++ (wX0 G (ado 2) x2))) := va_D_l (va_D_pm p1 hD)
  refine cl_i_pm (Wd := (WL G ad ado ad7 x0 x1 x2 x3 x4 x5 x6 x7 x8 x9 x10 x11 x12 x13 x14 g)) (Wc := ((wX6 G ad ado x0) ++ ((wX0 G (ado 1) x1) ++ (wX0 G (ado 2) x2)))) (W' := ((wX6 G ad ado x0) ++ ((wX0 G (ado 1) x1) ++ (wX0 G (ado 2) x2')))) (W2 := (WL G ad ado ad7 x0 x1 x2' x3 x4 x5 x6 x7 x8 x9 x10 x11 x12 x13 x14 g)) (Wr := ((wX0 G (ado 3) x3) ++ ((wX0 G (ado 4) x4) ++ ((wX4 G (ado 5) x5) ++ ((wX5 G (ado 6) (ado 7 0) x6) ++ ((wX0 G (ado 7) x7) ++ ((wX3 G (ado 8) x8) ++ ((wX1 G (ado 9) (ado 10 0) x9) ++ ((wX0 G (ado 10) x10) ++ ((wX2 G (ado 11) x11) ++ ((wX2 G (ado 12) x12) ++ ((wX2 G (ado 13) x13) ++ ((wX2 G (ado 14) x14) ++ (wX7 G ad7 g)))))))))))))) p1 p2 (va_runV (As := [.int (xs (nI i + nI 1).toNatClampNeg), .int (xs (nI i + nI 2).toNatClampNeg)]) (rest := []) hC (c_X6_bare l G ad ado x0 x1 x2 (xs (nI i + nI 1).toNatClampNeg) (xs (nI i + nI 2).toNatClampNeg) r x2' e1 _) (cwV 2 hts gL_law_X6_bare rfl rfl rfl (by decide +kernel) ⟨Nat.le_of_ble_eq_true rfl, Nat.le_of_ble_eq_true rfl⟩) ⟨Pc0_blind, va_recv hT hPc (q0 := 0) (ci := 6) rfl rfl, fun U hU hW => Pc0_at (Wd := ((wX6 G ad ado x0) ++ ((wX0 G (ado 1) x1) ++ (wX0 G (ado 2) x2)))) hE hPc hDc hU hW⟩ rfl rfl hl.1 rfl (lv_room (Nat.le_of_ble_eq_true rfl)) dL_law_922 ⟨Nat.le_of_ble_eq_true rfl, Nat.le_of_ble_eq_true rfl⟩) hS hA hP hD (fun H locs hP hD hS => ?_)
  clear p1 p2 hPc hDc
  refine lv_aload_n hx hb dL_law_925 rfl (lv_at hl 2 rfl) ?_
  refine lv_aload_n hx hb dL_law_926 rfl (lv_at hl 0 rfl) ?_
  refine lv_iload_n hx hb dL_law_927 rfl (lv_at hl 3 rfl) ?_
  refine lv_iconst (v := (nI 1)) hx hb dL_law_928 (ic_1) ?_
  refine lv_iadd hx hb dL_law_929 ?_
  refine va_sld hx hb hX hbl hbA hS hn1 dL_law_930 ?_
  refine lv_aload_n hx hb dL_law_931 rfl (lv_at hl 0 rfl) ?_
  refine lv_iload_n hx hb dL_law_932 rfl (lv_at hl 3 rfl) ?_
  refine lv_iconst (v := (nI 2)) hx hb dL_law_933 (ic_2) ?_
  refine lv_iadd hx hb dL_law_934 ?_
  refine va_sld hx hb hX hbl hbA hS hn2 dL_law_935 ?_
  have p1 : List.Perm (WL G ad ado ad7 x0 x1 x2' x3 x4 x5 x6 x7 x8 x9 x10 x11 x12 x13 x14 g) ((wX7 G ad7 g) ++ ((wX6 G ad ado x0) ++ ((wX0 G (ado 1) x1) ++ ((wX0 G (ado 2) x2') ++ ((wX0 G (ado 3) x3) ++ ((wX0 G (ado 4) x4) ++ ((wX4 G (ado 5) x5) ++ ((wX5 G (ado 6) (ado 7 0) x6) ++ ((wX0 G (ado 7) x7) ++ ((wX3 G (ado 8) x8) ++ ((wX1 G (ado 9) (ado 10 0) x9) ++ ((wX0 G (ado 10) x10) ++ ((wX2 G (ado 11) x11) ++ ((wX2 G (ado 12) x12) ++ ((wX2 G (ado 13) x13) ++ (wX2 G (ado 14) x14)))))))))))))))) := catw_perm (as := [0, 1, 2, 3, 4, 5, 6, 7, 8, 9, 10, 11, 12, 13, 14, 15]) (is := [15]) (rs := [0, 1, 2, 3, 4, 5, 6, 7, 8, 9, 10, 11, 12, 13, 14]) (PC G ad ado ad7 (M16 x0 x1 x2' x3 x4 x5 x6 x7 x8 x9 x10 x11 x12 x13 x14 g)) (by decide)
  have p2 : List.Perm (WL G ad ado ad7 x0 x1 x2' x3 x4 x5 x6 x7 x8 x9 x10 x11 x12 x13 x14 g') ((wX7 G ad7 g') ++ ((wX6 G ad ado x0) ++ ((wX0 G (ado 1) x1) ++ ((wX0 G (ado 2) x2') ++ ((wX0 G (ado 3) x3) ++ ((wX0 G (ado 4) x4) ++ ((wX4 G (ado 5) x5) ++ ((wX5 G (ado 6) (ado 7 0) x6) ++ ((wX0 G (ado 7) x7) ++ ((wX3 G (ado 8) x8) ++ ((wX1 G (ado 9) (ado 10 0) x9) ++ ((wX0 G (ado 10) x10) ++ ((wX2 G (ado 11) x11) ++ ((wX2 G (ado 12) x12) ++ ((wX2 G (ado 13) x13) ++ (wX2 G (ado 14) x14)))))))))))))))) := catw_perm (as := [0, 1, 2, 3, 4, 5, 6, 7, 8, 9, 10, 11, 12, 13, 14, 15]) (is := [15]) (rs := [0, 1, 2, 3, 4, 5, 6, 7, 8, 9, 10, 11, 12, 13, 14]) (PC G ad ado ad7 (M16 x0 x1 x2' x3 x4 x5 x6 x7 x8 x9 x10 x11 x12 x13 x14 g')) (by decide)
  have hPc : va_P G.1 vwCl (wX7 G ad7 g) H := va_P_l (va_P_pm p1 hP)
  have hDc : va_D (fun q : Nat => s.heap.size ≤ q) (wX7 G ad7 g) := va_D_l (va_D_pm p1 hD)
  refine cl_i_pm (Wd := (WL G ad ado ad7 x0 x1 x2' x3 x4 x5 x6 x7 x8 x9 x10 x11 x12 x13 x14 g)) (Wc := (wX7 G ad7 g)) (W' := (wX7 G ad7 g')) (W2 := (WL G ad ado ad7 x0 x1 x2' x3 x4 x5 x6 x7 x8 x9 x10 x11 x12 x13 x14 g')) (Wr := ((wX6 G ad ado x0) ++ ((wX0 G (ado 1) x1) ++ ((wX0 G (ado 2) x2') ++ ((wX0 G (ado 3) x3) ++ ((wX0 G (ado 4) x4) ++ ((wX4 G (ado 5) x5) ++ ((wX5 G (ado 6) (ado 7 0) x6) ++ ((wX0 G (ado 7) x7) ++ ((wX3 G (ado 8) x8) ++ ((wX1 G (ado 9) (ado 10 0) x9) ++ ((wX0 G (ado 10) x10) ++ ((wX2 G (ado 11) x11) ++ ((wX2 G (ado 12) x12) ++ ((wX2 G (ado 13) x13) ++ (wX2 G (ado 14) x14)))))))))))))))) p1 p2 (va_runV (As := [.int (xs (nI i + nI 1).toNatClampNeg), .int (xs (nI i + nI 2).toNatClampNeg)]) (rest := [.int r]) hC (c_X7_bare l G ad7 g (xs (nI i + nI 1).toNatClampNeg) (xs (nI i + nI 2).toNatClampNeg) r g' e2 _) (cwV 2 hts gL_law_X7_bare rfl rfl rfl (by decide +kernel) ⟨Nat.le_of_ble_eq_true rfl, Nat.le_of_ble_eq_true rfl⟩) ⟨Pc0_blind, va_recv hT hPc (q0 := 0) (ci := 7) rfl rfl, fun U hU hW => Pc0_at (Wd := (wX7 G ad7 g)) hE hPc hDc hU hW⟩ rfl rfl hl.1 rfl (lv_room (Nat.le_of_ble_eq_true rfl)) dL_law_936 ⟨Nat.le_of_ble_eq_true rfl, Nat.le_of_ble_eq_true rfl⟩) hS hA hP hD (fun H locs hP hD hS => ?_)
  clear p1 p2 hPc hDc
  refine lv_icmp_eq (tgt := 1766) hx hb dL_law_939 (by decide) (fun _ => ?_) (fun h => absurd rfl h)
  exact kk x0 x1 x2' x3 x4 x5 x6 x7 x8 x9 x10 x11 x12 x13 x14 g' H locs Rr' hP hD hS
set_option maxHeartbeats 8000000 in
set_option maxRecDepth 100000 in
theorem law_rich (hC : CallFix p m c cL_law 4 s args wsL_law RL) (hE : EV G s) (hZ : SV sk sv (fun q : Nat => s.heap.size ≤ q) s s.heap) (hX : va_X b L xs s s.heap) (hbl : b < s.heap.size) (hi : i + 6 ≤ L) (hL : L ≤ 384) (Rr : Rel x0 x1 x3 x4 x5 x6 x8 x11 x12 x13 x14 g) (hP : va_P G.1 vwCl (WL G ad ado ad7 x0 x1 x2 x3 x4 x5 x6 x7 x8 x9 x10 x11 x12 x13 x14 g) H) (hD : va_D (fun q : Nat => s.heap.size ≤ q) (WL G ad ado ad7 x0 x1 x2 x3 x4 x5 x6 x7 x8 x9 x10 x11 x12 x13 x14 g)) (hS : va_S (fun q : Nat => s.heap.size ≤ q) s.heap H locs) (hl : lv_has ls 4 [(0, .ref b), (1, .ref (ad 0)), (2, .ref (ad7 0)), (3, .int (nI i))]) (kk : GoOn p l e s m args below meth c G ad ado ad7 ls Q) : W p l e room_1 s m args below meth c H locs 100 2657 Q (F0 m 944 ls []) := by
  have hA : ∀ q : Nat, s.heap.size ≤ q → (fun q : Nat => s.heap.size ≤ q) q := fun _ h => h
  have hbA : ¬ (fun q : Nat => s.heap.size ≤ q) b := Nat.not_le.mpr hbl
  obtain ⟨hx, hb, hml, hown, hts⟩ := id hC
  have hT : va_K G.1 vwCl (tyL G) s := hE.1
  have hn1 : vp_in (nI i + nI 1) L := by rw [nI_add]; exact vp_in_nI (by omega) (by omega)
  have hn2 : vp_in (nI i + nI 2) L := by rw [nI_add]; exact vp_in_nI (by omega) (by omega)
  obtain ⟨r, x2', g', e1, e2, Rr'⟩ := op_rich Rr x2 (xs (nI i + nI 1).toNatClampNeg) (xs (nI i + nI 2).toNatClampNeg)
  refine lv_aload_n hx hb dL_law_944 rfl (lv_at hl 1 rfl) ?_
  refine lv_aload_n hx hb dL_law_945 rfl (lv_at hl 0 rfl) ?_
  refine lv_iload_n hx hb dL_law_946 rfl (lv_at hl 3 rfl) ?_
  refine lv_iconst (v := (nI 1)) hx hb dL_law_947 (ic_1) ?_
  refine lv_iadd hx hb dL_law_948 ?_
  refine va_sld hx hb hX hbl hbA hS hn1 dL_law_949 ?_
  refine lv_aload_n hx hb dL_law_950 rfl (lv_at hl 0 rfl) ?_
  refine lv_iload_n hx hb dL_law_951 rfl (lv_at hl 3 rfl) ?_
  refine lv_iconst (v := (nI 2)) hx hb dL_law_952 (ic_2) ?_
  refine lv_iadd hx hb dL_law_953 ?_
  refine va_sld hx hb hX hbl hbA hS hn2 dL_law_954 ?_
  have p1 : List.Perm (WL G ad ado ad7 x0 x1 x2 x3 x4 x5 x6 x7 x8 x9 x10 x11 x12 x13 x14 g) (((wX6 G ad ado x0) ++ ((wX0 G (ado 1) x1) ++ (wX0 G (ado 2) x2))) ++ ((wX0 G (ado 3) x3) ++ ((wX0 G (ado 4) x4) ++ ((wX4 G (ado 5) x5) ++ ((wX5 G (ado 6) (ado 7 0) x6) ++ ((wX0 G (ado 7) x7) ++ ((wX3 G (ado 8) x8) ++ ((wX1 G (ado 9) (ado 10 0) x9) ++ ((wX0 G (ado 10) x10) ++ ((wX2 G (ado 11) x11) ++ ((wX2 G (ado 12) x12) ++ ((wX2 G (ado 13) x13) ++ ((wX2 G (ado 14) x14) ++ (wX7 G ad7 g)))))))))))))) := catw_perm (as := [0, 1, 2, 3, 4, 5, 6, 7, 8, 9, 10, 11, 12, 13, 14, 15]) (is := [0, 1, 2]) (rs := [3, 4, 5, 6, 7, 8, 9, 10, 11, 12, 13, 14, 15]) (PC G ad ado ad7 (M16 x0 x1 x2 x3 x4 x5 x6 x7 x8 x9 x10 x11 x12 x13 x14 g)) (by decide)
  have p2 : List.Perm (WL G ad ado ad7 x0 x1 x2' x3 x4 x5 x6 x7 x8 x9 x10 x11 x12 x13 x14 g) (((wX6 G ad ado x0) ++ ((wX0 G (ado 1) x1) ++ (wX0 G (ado 2) x2'))) ++ ((wX0 G (ado 3) x3) ++ ((wX0 G (ado 4) x4) ++ ((wX4 G (ado 5) x5) ++ ((wX5 G (ado 6) (ado 7 0) x6) ++ ((wX0 G (ado 7) x7) ++ ((wX3 G (ado 8) x8) ++ ((wX1 G (ado 9) (ado 10 0) x9) ++ ((wX0 G (ado 10) x10) ++ ((wX2 G (ado 11) x11) ++ ((wX2 G (ado 12) x12) ++ ((wX2 G (ado 13) x13) ++ ((wX2 G (ado 14) x14) ++ (wX7 G ad7 g)))))))))))))) := catw_perm (as := [0, 1, 2, 3, 4, 5, 6, 7, 8, 9, 10, 11, 12, 13, 14, 15]) (is := [0, 1, 2]) (rs := [3, 4, 5, 6, 7, 8, 9, 10, 11, 12, 13, 14, 15]) (PC G ad ado ad7 (M16 x0 x1 x2' x3 x4 x5 x6 x7 x8 x9 x10 x11 x12 x13 x14 g)) (by decide)
  have hPc : va_P G.1 vwCl ((wX6 G ad ado x0) ++ ((wX0 G (ado 1) x1) ++ (wX0 G (ado 2) x2))) H := va_P_l (va_P_pm p1 hP)
  have hDc : va_D (fun q : Nat => s.heap.size ≤ q) ((wX6 G ad ado x0) ++ ((wX0 G (ado 1) x1) ++ (wX0 G (ado 2) x2))) := va_D_l (va_D_pm p1 hD)
  refine cl_i_pm (Wd := (WL G ad ado ad7 x0 x1 x2 x3 x4 x5 x6 x7 x8 x9 x10 x11 x12 x13 x14 g)) (Wc := ((wX6 G ad ado x0) ++ ((wX0 G (ado 1) x1) ++ (wX0 G (ado 2) x2)))) (W' := ((wX6 G ad ado x0) ++ ((wX0 G (ado 1) x1) ++ (wX0 G (ado 2) x2')))) (W2 := (WL G ad ado ad7 x0 x1 x2' x3 x4 x5 x6 x7 x8 x9 x10 x11 x12 x13 x14 g)) (Wr := ((wX0 G (ado 3) x3) ++ ((wX0 G (ado 4) x4) ++ ((wX4 G (ado 5) x5) ++ ((wX5 G (ado 6) (ado 7 0) x6) ++ ((wX0 G (ado 7) x7) ++ ((wX3 G (ado 8) x8) ++ ((wX1 G (ado 9) (ado 10 0) x9) ++ ((wX0 G (ado 10) x10) ++ ((wX2 G (ado 11) x11) ++ ((wX2 G (ado 12) x12) ++ ((wX2 G (ado 13) x13) ++ ((wX2 G (ado 14) x14) ++ (wX7 G ad7 g)))))))))))))) p1 p2 (va_runV (As := [.int (xs (nI i + nI 1).toNatClampNeg), .int (xs (nI i + nI 2).toNatClampNeg)]) (rest := []) hC (c_X6_rich l G ad ado x0 x1 x2 (xs (nI i + nI 1).toNatClampNeg) (xs (nI i + nI 2).toNatClampNeg) r x2' e1 _) (cwV 2 hts gL_law_X6_rich rfl rfl rfl (by decide +kernel) ⟨Nat.le_of_ble_eq_true rfl, Nat.le_of_ble_eq_true rfl⟩) ⟨Pc0_blind, va_recv hT hPc (q0 := 0) (ci := 6) rfl rfl, fun U hU hW => Pc0_at (Wd := ((wX6 G ad ado x0) ++ ((wX0 G (ado 1) x1) ++ (wX0 G (ado 2) x2)))) hE hPc hDc hU hW⟩ rfl rfl hl.1 rfl (lv_room (Nat.le_of_ble_eq_true rfl)) dL_law_955 ⟨Nat.le_of_ble_eq_true rfl, Nat.le_of_ble_eq_true rfl⟩) hS hA hP hD (fun H locs hP hD hS => ?_)
  clear p1 p2 hPc hDc
  refine lv_aload_n hx hb dL_law_958 rfl (lv_at hl 2 rfl) ?_
  refine lv_aload_n hx hb dL_law_959 rfl (lv_at hl 0 rfl) ?_
  refine lv_iload_n hx hb dL_law_960 rfl (lv_at hl 3 rfl) ?_
  refine lv_iconst (v := (nI 1)) hx hb dL_law_961 (ic_1) ?_
  refine lv_iadd hx hb dL_law_962 ?_
  refine va_sld hx hb hX hbl hbA hS hn1 dL_law_963 ?_
  refine lv_aload_n hx hb dL_law_964 rfl (lv_at hl 0 rfl) ?_
  refine lv_iload_n hx hb dL_law_965 rfl (lv_at hl 3 rfl) ?_
  refine lv_iconst (v := (nI 2)) hx hb dL_law_966 (ic_2) ?_
  refine lv_iadd hx hb dL_law_967 ?_
  refine va_sld hx hb hX hbl hbA hS hn2 dL_law_968 ?_
  have p1 : List.Perm (WL G ad ado ad7 x0 x1 x2' x3 x4 x5 x6 x7 x8 x9 x10 x11 x12 x13 x14 g) ((wX7 G ad7 g) ++ ((wX6 G ad ado x0) ++ ((wX0 G (ado 1) x1) ++ ((wX0 G (ado 2) x2') ++ ((wX0 G (ado 3) x3) ++ ((wX0 G (ado 4) x4) ++ ((wX4 G (ado 5) x5) ++ ((wX5 G (ado 6) (ado 7 0) x6) ++ ((wX0 G (ado 7) x7) ++ ((wX3 G (ado 8) x8) ++ ((wX1 G (ado 9) (ado 10 0) x9) ++ ((wX0 G (ado 10) x10) ++ ((wX2 G (ado 11) x11) ++ ((wX2 G (ado 12) x12) ++ ((wX2 G (ado 13) x13) ++ (wX2 G (ado 14) x14)))))))))))))))) := catw_perm (as := [0, 1, 2, 3, 4, 5, 6, 7, 8, 9, 10, 11, 12, 13, 14, 15]) (is := [15]) (rs := [0, 1, 2, 3, 4, 5, 6, 7, 8, 9, 10, 11, 12, 13, 14]) (PC G ad ado ad7 (M16 x0 x1 x2' x3 x4 x5 x6 x7 x8 x9 x10 x11 x12 x13 x14 g)) (by decide)
  have p2 : List.Perm (WL G ad ado ad7 x0 x1 x2' x3 x4 x5 x6 x7 x8 x9 x10 x11 x12 x13 x14 g') ((wX7 G ad7 g') ++ ((wX6 G ad ado x0) ++ ((wX0 G (ado 1) x1) ++ ((wX0 G (ado 2) x2') ++ ((wX0 G (ado 3) x3) ++ ((wX0 G (ado 4) x4) ++ ((wX4 G (ado 5) x5) ++ ((wX5 G (ado 6) (ado 7 0) x6) ++ ((wX0 G (ado 7) x7) ++ ((wX3 G (ado 8) x8) ++ ((wX1 G (ado 9) (ado 10 0) x9) ++ ((wX0 G (ado 10) x10) ++ ((wX2 G (ado 11) x11) ++ ((wX2 G (ado 12) x12) ++ ((wX2 G (ado 13) x13) ++ (wX2 G (ado 14) x14)))))))))))))))) := catw_perm (as := [0, 1, 2, 3, 4, 5, 6, 7, 8, 9, 10, 11, 12, 13, 14, 15]) (is := [15]) (rs := [0, 1, 2, 3, 4, 5, 6, 7, 8, 9, 10, 11, 12, 13, 14]) (PC G ad ado ad7 (M16 x0 x1 x2' x3 x4 x5 x6 x7 x8 x9 x10 x11 x12 x13 x14 g')) (by decide)
  have hPc : va_P G.1 vwCl (wX7 G ad7 g) H := va_P_l (va_P_pm p1 hP)
  have hDc : va_D (fun q : Nat => s.heap.size ≤ q) (wX7 G ad7 g) := va_D_l (va_D_pm p1 hD)
  refine cl_i_pm (Wd := (WL G ad ado ad7 x0 x1 x2' x3 x4 x5 x6 x7 x8 x9 x10 x11 x12 x13 x14 g)) (Wc := (wX7 G ad7 g)) (W' := (wX7 G ad7 g')) (W2 := (WL G ad ado ad7 x0 x1 x2' x3 x4 x5 x6 x7 x8 x9 x10 x11 x12 x13 x14 g')) (Wr := ((wX6 G ad ado x0) ++ ((wX0 G (ado 1) x1) ++ ((wX0 G (ado 2) x2') ++ ((wX0 G (ado 3) x3) ++ ((wX0 G (ado 4) x4) ++ ((wX4 G (ado 5) x5) ++ ((wX5 G (ado 6) (ado 7 0) x6) ++ ((wX0 G (ado 7) x7) ++ ((wX3 G (ado 8) x8) ++ ((wX1 G (ado 9) (ado 10 0) x9) ++ ((wX0 G (ado 10) x10) ++ ((wX2 G (ado 11) x11) ++ ((wX2 G (ado 12) x12) ++ ((wX2 G (ado 13) x13) ++ (wX2 G (ado 14) x14)))))))))))))))) p1 p2 (va_runV (As := [.int (xs (nI i + nI 1).toNatClampNeg), .int (xs (nI i + nI 2).toNatClampNeg)]) (rest := [.int r]) hC (c_X7_rich l G ad7 g (xs (nI i + nI 1).toNatClampNeg) (xs (nI i + nI 2).toNatClampNeg) r g' e2 _) (cwV 2 hts gL_law_X7_rich rfl rfl rfl (by decide +kernel) ⟨Nat.le_of_ble_eq_true rfl, Nat.le_of_ble_eq_true rfl⟩) ⟨Pc0_blind, va_recv hT hPc (q0 := 0) (ci := 7) rfl rfl, fun U hU hW => Pc0_at (Wd := (wX7 G ad7 g)) hE hPc hDc hU hW⟩ rfl rfl hl.1 rfl (lv_room (Nat.le_of_ble_eq_true rfl)) dL_law_969 ⟨Nat.le_of_ble_eq_true rfl, Nat.le_of_ble_eq_true rfl⟩) hS hA hP hD (fun H locs hP hD hS => ?_)
  clear p1 p2 hPc hDc
  refine lv_icmp_eq (tgt := 1766) hx hb dL_law_972 (by decide) (fun _ => ?_) (fun h => absurd rfl h)
  exact kk x0 x1 x2' x3 x4 x5 x6 x7 x8 x9 x10 x11 x12 x13 x14 g' H locs Rr' hP hD hS
set_option maxHeartbeats 8000000 in
set_option maxRecDepth 100000 in
theorem law_turn (hC : CallFix p m c cL_law 4 s args wsL_law RL) (hE : EV G s) (hZ : SV sk sv (fun q : Nat => s.heap.size ≤ q) s s.heap) (hX : va_X b L xs s s.heap) (hbl : b < s.heap.size) (hi : i + 6 ≤ L) (hL : L ≤ 384) (Rr : Rel x0 x1 x3 x4 x5 x6 x8 x11 x12 x13 x14 g) (hP : va_P G.1 vwCl (WL G ad ado ad7 x0 x1 x2 x3 x4 x5 x6 x7 x8 x9 x10 x11 x12 x13 x14 g) H) (hD : va_D (fun q : Nat => s.heap.size ≤ q) (WL G ad ado ad7 x0 x1 x2 x3 x4 x5 x6 x7 x8 x9 x10 x11 x12 x13 x14 g)) (hS : va_S (fun q : Nat => s.heap.size ≤ q) s.heap H locs) (hl : lv_has ls 4 [(0, .ref b), (1, .ref (ad 0)), (2, .ref (ad7 0)), (3, .int (nI i))]) (kk : GoOn p l e s m args below meth c G ad ado ad7 ls Q) : W p l e room_1 s m args below meth c H locs 100 2657 Q (F0 m 977 ls []) := by
  have hA : ∀ q : Nat, s.heap.size ≤ q → (fun q : Nat => s.heap.size ≤ q) q := fun _ h => h
  have hbA : ¬ (fun q : Nat => s.heap.size ≤ q) b := Nat.not_le.mpr hbl
  obtain ⟨hx, hb, hml, hown, hts⟩ := id hC
  have hT : va_K G.1 vwCl (tyL G) s := hE.1
  have hn1 : vp_in (nI i + nI 1) L := by rw [nI_add]; exact vp_in_nI (by omega) (by omega)
  obtain ⟨r, x2', g', e1, e2, Rr'⟩ := op_turn Rr x2 (xs (nI i + nI 1).toNatClampNeg)
  refine lv_aload_n hx hb dL_law_977 rfl (lv_at hl 1 rfl) ?_
  refine lv_aload_n hx hb dL_law_978 rfl (lv_at hl 0 rfl) ?_
  refine lv_iload_n hx hb dL_law_979 rfl (lv_at hl 3 rfl) ?_
  refine lv_iconst (v := (nI 1)) hx hb dL_law_980 (ic_1) ?_
  refine lv_iadd hx hb dL_law_981 ?_
  refine va_sld hx hb hX hbl hbA hS hn1 dL_law_982 ?_
  have p1 : List.Perm (WL G ad ado ad7 x0 x1 x2 x3 x4 x5 x6 x7 x8 x9 x10 x11 x12 x13 x14 g) (((wX6 G ad ado x0) ++ ((wX0 G (ado 1) x1) ++ (wX0 G (ado 2) x2))) ++ ((wX0 G (ado 3) x3) ++ ((wX0 G (ado 4) x4) ++ ((wX4 G (ado 5) x5) ++ ((wX5 G (ado 6) (ado 7 0) x6) ++ ((wX0 G (ado 7) x7) ++ ((wX3 G (ado 8) x8) ++ ((wX1 G (ado 9) (ado 10 0) x9) ++ ((wX0 G (ado 10) x10) ++ ((wX2 G (ado 11) x11) ++ ((wX2 G (ado 12) x12) ++ ((wX2 G (ado 13) x13) ++ ((wX2 G (ado 14) x14) ++ (wX7 G ad7 g)))))))))))))) := catw_perm (as := [0, 1, 2, 3, 4, 5, 6, 7, 8, 9, 10, 11, 12, 13, 14, 15]) (is := [0, 1, 2]) (rs := [3, 4, 5, 6, 7, 8, 9, 10, 11, 12, 13, 14, 15]) (PC G ad ado ad7 (M16 x0 x1 x2 x3 x4 x5 x6 x7 x8 x9 x10 x11 x12 x13 x14 g)) (by decide)
  have p2 : List.Perm (WL G ad ado ad7 x0 x1 x2' x3 x4 x5 x6 x7 x8 x9 x10 x11 x12 x13 x14 g) (((wX6 G ad ado x0) ++ ((wX0 G (ado 1) x1) ++ (wX0 G (ado 2) x2'))) ++ ((wX0 G (ado 3) x3) ++ ((wX0 G (ado 4) x4) ++ ((wX4 G (ado 5) x5) ++ ((wX5 G (ado 6) (ado 7 0) x6) ++ ((wX0 G (ado 7) x7) ++ ((wX3 G (ado 8) x8) ++ ((wX1 G (ado 9) (ado 10 0) x9) ++ ((wX0 G (ado 10) x10) ++ ((wX2 G (ado 11) x11) ++ ((wX2 G (ado 12) x12) ++ ((wX2 G (ado 13) x13) ++ ((wX2 G (ado 14) x14) ++ (wX7 G ad7 g)))))))))))))) := catw_perm (as := [0, 1, 2, 3, 4, 5, 6, 7, 8, 9, 10, 11, 12, 13, 14, 15]) (is := [0, 1, 2]) (rs := [3, 4, 5, 6, 7, 8, 9, 10, 11, 12, 13, 14, 15]) (PC G ad ado ad7 (M16 x0 x1 x2' x3 x4 x5 x6 x7 x8 x9 x10 x11 x12 x13 x14 g)) (by decide)
  have hPc : va_P G.1 vwCl ((wX6 G ad ado x0) ++ ((wX0 G (ado 1) x1) ++ (wX0 G (ado 2) x2))) H := va_P_l (va_P_pm p1 hP)
  have hDc : va_D (fun q : Nat => s.heap.size ≤ q) ((wX6 G ad ado x0) ++ ((wX0 G (ado 1) x1) ++ (wX0 G (ado 2) x2))) := va_D_l (va_D_pm p1 hD)
  refine cl_i_pm (Wd := (WL G ad ado ad7 x0 x1 x2 x3 x4 x5 x6 x7 x8 x9 x10 x11 x12 x13 x14 g)) (Wc := ((wX6 G ad ado x0) ++ ((wX0 G (ado 1) x1) ++ (wX0 G (ado 2) x2)))) (W' := ((wX6 G ad ado x0) ++ ((wX0 G (ado 1) x1) ++ (wX0 G (ado 2) x2')))) (W2 := (WL G ad ado ad7 x0 x1 x2' x3 x4 x5 x6 x7 x8 x9 x10 x11 x12 x13 x14 g)) (Wr := ((wX0 G (ado 3) x3) ++ ((wX0 G (ado 4) x4) ++ ((wX4 G (ado 5) x5) ++ ((wX5 G (ado 6) (ado 7 0) x6) ++ ((wX0 G (ado 7) x7) ++ ((wX3 G (ado 8) x8) ++ ((wX1 G (ado 9) (ado 10 0) x9) ++ ((wX0 G (ado 10) x10) ++ ((wX2 G (ado 11) x11) ++ ((wX2 G (ado 12) x12) ++ ((wX2 G (ado 13) x13) ++ ((wX2 G (ado 14) x14) ++ (wX7 G ad7 g)))))))))))))) p1 p2 (va_runV (As := [.int (xs (nI i + nI 1).toNatClampNeg)]) (rest := []) hC (c_X6_turn l G ad ado x0 x1 x2 (xs (nI i + nI 1).toNatClampNeg) r x2' e1 _) (cwV 1 hts gL_law_X6_turn rfl rfl rfl (by decide +kernel) ⟨Nat.le_of_ble_eq_true rfl, Nat.le_of_ble_eq_true rfl⟩) ⟨Pc0_blind, va_recv hT hPc (q0 := 0) (ci := 6) rfl rfl, fun U hU hW => Pc0_at (Wd := ((wX6 G ad ado x0) ++ ((wX0 G (ado 1) x1) ++ (wX0 G (ado 2) x2)))) hE hPc hDc hU hW⟩ rfl rfl hl.1 rfl (lv_room (Nat.le_of_ble_eq_true rfl)) dL_law_983 ⟨Nat.le_of_ble_eq_true rfl, Nat.le_of_ble_eq_true rfl⟩) hS hA hP hD (fun H locs hP hD hS => ?_)
  clear p1 p2 hPc hDc
  refine lv_aload_n hx hb dL_law_986 rfl (lv_at hl 2 rfl) ?_
  refine lv_aload_n hx hb dL_law_987 rfl (lv_at hl 0 rfl) ?_
  refine lv_iload_n hx hb dL_law_988 rfl (lv_at hl 3 rfl) ?_
  refine lv_iconst (v := (nI 1)) hx hb dL_law_989 (ic_1) ?_
  refine lv_iadd hx hb dL_law_990 ?_
  refine va_sld hx hb hX hbl hbA hS hn1 dL_law_991 ?_
  have p1 : List.Perm (WL G ad ado ad7 x0 x1 x2' x3 x4 x5 x6 x7 x8 x9 x10 x11 x12 x13 x14 g) ((wX7 G ad7 g) ++ ((wX6 G ad ado x0) ++ ((wX0 G (ado 1) x1) ++ ((wX0 G (ado 2) x2') ++ ((wX0 G (ado 3) x3) ++ ((wX0 G (ado 4) x4) ++ ((wX4 G (ado 5) x5) ++ ((wX5 G (ado 6) (ado 7 0) x6) ++ ((wX0 G (ado 7) x7) ++ ((wX3 G (ado 8) x8) ++ ((wX1 G (ado 9) (ado 10 0) x9) ++ ((wX0 G (ado 10) x10) ++ ((wX2 G (ado 11) x11) ++ ((wX2 G (ado 12) x12) ++ ((wX2 G (ado 13) x13) ++ (wX2 G (ado 14) x14)))))))))))))))) := catw_perm (as := [0, 1, 2, 3, 4, 5, 6, 7, 8, 9, 10, 11, 12, 13, 14, 15]) (is := [15]) (rs := [0, 1, 2, 3, 4, 5, 6, 7, 8, 9, 10, 11, 12, 13, 14]) (PC G ad ado ad7 (M16 x0 x1 x2' x3 x4 x5 x6 x7 x8 x9 x10 x11 x12 x13 x14 g)) (by decide)
  have p2 : List.Perm (WL G ad ado ad7 x0 x1 x2' x3 x4 x5 x6 x7 x8 x9 x10 x11 x12 x13 x14 g') ((wX7 G ad7 g') ++ ((wX6 G ad ado x0) ++ ((wX0 G (ado 1) x1) ++ ((wX0 G (ado 2) x2') ++ ((wX0 G (ado 3) x3) ++ ((wX0 G (ado 4) x4) ++ ((wX4 G (ado 5) x5) ++ ((wX5 G (ado 6) (ado 7 0) x6) ++ ((wX0 G (ado 7) x7) ++ ((wX3 G (ado 8) x8) ++ ((wX1 G (ado 9) (ado 10 0) x9) ++ ((wX0 G (ado 10) x10) ++ ((wX2 G (ado 11) x11) ++ ((wX2 G (ado 12) x12) ++ ((wX2 G (ado 13) x13) ++ (wX2 G (ado 14) x14)))))))))))))))) := catw_perm (as := [0, 1, 2, 3, 4, 5, 6, 7, 8, 9, 10, 11, 12, 13, 14, 15]) (is := [15]) (rs := [0, 1, 2, 3, 4, 5, 6, 7, 8, 9, 10, 11, 12, 13, 14]) (PC G ad ado ad7 (M16 x0 x1 x2' x3 x4 x5 x6 x7 x8 x9 x10 x11 x12 x13 x14 g')) (by decide)
  have hPc : va_P G.1 vwCl (wX7 G ad7 g) H := va_P_l (va_P_pm p1 hP)
  have hDc : va_D (fun q : Nat => s.heap.size ≤ q) (wX7 G ad7 g) := va_D_l (va_D_pm p1 hD)
  refine cl_i_pm (Wd := (WL G ad ado ad7 x0 x1 x2' x3 x4 x5 x6 x7 x8 x9 x10 x11 x12 x13 x14 g)) (Wc := (wX7 G ad7 g)) (W' := (wX7 G ad7 g')) (W2 := (WL G ad ado ad7 x0 x1 x2' x3 x4 x5 x6 x7 x8 x9 x10 x11 x12 x13 x14 g')) (Wr := ((wX6 G ad ado x0) ++ ((wX0 G (ado 1) x1) ++ ((wX0 G (ado 2) x2') ++ ((wX0 G (ado 3) x3) ++ ((wX0 G (ado 4) x4) ++ ((wX4 G (ado 5) x5) ++ ((wX5 G (ado 6) (ado 7 0) x6) ++ ((wX0 G (ado 7) x7) ++ ((wX3 G (ado 8) x8) ++ ((wX1 G (ado 9) (ado 10 0) x9) ++ ((wX0 G (ado 10) x10) ++ ((wX2 G (ado 11) x11) ++ ((wX2 G (ado 12) x12) ++ ((wX2 G (ado 13) x13) ++ (wX2 G (ado 14) x14)))))))))))))))) p1 p2 (va_runV (As := [.int (xs (nI i + nI 1).toNatClampNeg)]) (rest := [.int r]) hC (c_X7_turn l G ad7 g (xs (nI i + nI 1).toNatClampNeg) r g' e2 _) (cwV 1 hts gL_law_X7_turn rfl rfl rfl (by decide +kernel) ⟨Nat.le_of_ble_eq_true rfl, Nat.le_of_ble_eq_true rfl⟩) ⟨Pc0_blind, va_recv hT hPc (q0 := 0) (ci := 7) rfl rfl, fun U hU hW => Pc0_at (Wd := (wX7 G ad7 g)) hE hPc hDc hU hW⟩ rfl rfl hl.1 rfl (lv_room (Nat.le_of_ble_eq_true rfl)) dL_law_992 ⟨Nat.le_of_ble_eq_true rfl, Nat.le_of_ble_eq_true rfl⟩) hS hA hP hD (fun H locs hP hD hS => ?_)
  clear p1 p2 hPc hDc
  refine lv_icmp_eq (tgt := 1766) hx hb dL_law_995 (by decide) (fun _ => ?_) (fun h => absurd rfl h)
  exact kk x0 x1 x2' x3 x4 x5 x6 x7 x8 x9 x10 x11 x12 x13 x14 g' H locs Rr' hP hD hS
set_option maxHeartbeats 8000000 in
set_option maxRecDepth 100000 in
theorem law_need (hC : CallFix p m c cL_law 4 s args wsL_law RL) (hE : EV G s) (hZ : SV sk sv (fun q : Nat => s.heap.size ≤ q) s s.heap) (hX : va_X b L xs s s.heap) (hbl : b < s.heap.size) (hi : i + 6 ≤ L) (hL : L ≤ 384) (Rr : Rel x0 x1 x3 x4 x5 x6 x8 x11 x12 x13 x14 g) (hP : va_P G.1 vwCl (WL G ad ado ad7 x0 x1 x2 x3 x4 x5 x6 x7 x8 x9 x10 x11 x12 x13 x14 g) H) (hD : va_D (fun q : Nat => s.heap.size ≤ q) (WL G ad ado ad7 x0 x1 x2 x3 x4 x5 x6 x7 x8 x9 x10 x11 x12 x13 x14 g)) (hS : va_S (fun q : Nat => s.heap.size ≤ q) s.heap H locs) (hl : lv_has ls 4 [(0, .ref b), (1, .ref (ad 0)), (2, .ref (ad7 0)), (3, .int (nI i))]) (kk : GoOn p l e s m args below meth c G ad ado ad7 ls Q) : W p l e room_1 s m args below meth c H locs 100 2657 Q (F0 m 1000 ls []) := by
  have hA : ∀ q : Nat, s.heap.size ≤ q → (fun q : Nat => s.heap.size ≤ q) q := fun _ h => h
  have hbA : ¬ (fun q : Nat => s.heap.size ≤ q) b := Nat.not_le.mpr hbl
  obtain ⟨hx, hb, hml, hown, hts⟩ := id hC
  have hT : va_K G.1 vwCl (tyL G) s := hE.1
  have hn1 : vp_in (nI i + nI 1) L := by rw [nI_add]; exact vp_in_nI (by omega) (by omega)
  have hn2 : vp_in (nI i + nI 2) L := by rw [nI_add]; exact vp_in_nI (by omega) (by omega)
  have hn3 : vp_in (nI i + nI 3) L := by rw [nI_add]; exact vp_in_nI (by omega) (by omega)
  obtain ⟨r, x2', g', e1, e2, Rr'⟩ := op_need Rr x2 (xs (nI i + nI 1).toNatClampNeg) (xs (nI i + nI 2).toNatClampNeg) (xs (nI i + nI 3).toNatClampNeg)
  refine lv_aload_n hx hb dL_law_1000 rfl (lv_at hl 1 rfl) ?_
  refine lv_aload_n hx hb dL_law_1001 rfl (lv_at hl 0 rfl) ?_
  refine lv_iload_n hx hb dL_law_1002 rfl (lv_at hl 3 rfl) ?_
  refine lv_iconst (v := (nI 1)) hx hb dL_law_1003 (ic_1) ?_
  refine lv_iadd hx hb dL_law_1004 ?_
  refine va_sld hx hb hX hbl hbA hS hn1 dL_law_1005 ?_
  refine lv_aload_n hx hb dL_law_1006 rfl (lv_at hl 0 rfl) ?_
  refine lv_iload_n hx hb dL_law_1007 rfl (lv_at hl 3 rfl) ?_
  refine lv_iconst (v := (nI 2)) hx hb dL_law_1008 (ic_2) ?_
  refine lv_iadd hx hb dL_law_1009 ?_
  refine va_sld hx hb hX hbl hbA hS hn2 dL_law_1010 ?_
  refine lv_aload_n hx hb dL_law_1011 rfl (lv_at hl 0 rfl) ?_
  refine lv_iload_n hx hb dL_law_1012 rfl (lv_at hl 3 rfl) ?_
  refine lv_iconst (v := (nI 3)) hx hb dL_law_1013 (ic_3) ?_
  refine lv_iadd hx hb dL_law_1014 ?_
  refine va_sld hx hb hX hbl hbA hS hn3 dL_law_1015 ?_
  have p1 : List.Perm (WL G ad ado ad7 x0 x1 x2 x3 x4 x5 x6 x7 x8 x9 x10 x11 x12 x13 x14 g) (((wX6 G ad ado x0) ++ ((wX0 G (ado 1) x1) ++ (wX0 G (ado 2) x2))) ++ ((wX0 G (ado 3) x3) ++ ((wX0 G (ado 4) x4) ++ ((wX4 G (ado 5) x5) ++ ((wX5 G (ado 6) (ado 7 0) x6) ++ ((wX0 G (ado 7) x7) ++ ((wX3 G (ado 8) x8) ++ ((wX1 G (ado 9) (ado 10 0) x9) ++ ((wX0 G (ado 10) x10) ++ ((wX2 G (ado 11) x11) ++ ((wX2 G (ado 12) x12) ++ ((wX2 G (ado 13) x13) ++ ((wX2 G (ado 14) x14) ++ (wX7 G ad7 g)))))))))))))) := catw_perm (as := [0, 1, 2, 3, 4, 5, 6, 7, 8, 9, 10, 11, 12, 13, 14, 15]) (is := [0, 1, 2]) (rs := [3, 4, 5, 6, 7, 8, 9, 10, 11, 12, 13, 14, 15]) (PC G ad ado ad7 (M16 x0 x1 x2 x3 x4 x5 x6 x7 x8 x9 x10 x11 x12 x13 x14 g)) (by decide)
  have p2 : List.Perm (WL G ad ado ad7 x0 x1 x2' x3 x4 x5 x6 x7 x8 x9 x10 x11 x12 x13 x14 g) (((wX6 G ad ado x0) ++ ((wX0 G (ado 1) x1) ++ (wX0 G (ado 2) x2'))) ++ ((wX0 G (ado 3) x3) ++ ((wX0 G (ado 4) x4) ++ ((wX4 G (ado 5) x5) ++ ((wX5 G (ado 6) (ado 7 0) x6) ++ ((wX0 G (ado 7) x7) ++ ((wX3 G (ado 8) x8) ++ ((wX1 G (ado 9) (ado 10 0) x9) ++ ((wX0 G (ado 10) x10) ++ ((wX2 G (ado 11) x11) ++ ((wX2 G (ado 12) x12) ++ ((wX2 G (ado 13) x13) ++ ((wX2 G (ado 14) x14) ++ (wX7 G ad7 g)))))))))))))) := catw_perm (as := [0, 1, 2, 3, 4, 5, 6, 7, 8, 9, 10, 11, 12, 13, 14, 15]) (is := [0, 1, 2]) (rs := [3, 4, 5, 6, 7, 8, 9, 10, 11, 12, 13, 14, 15]) (PC G ad ado ad7 (M16 x0 x1 x2' x3 x4 x5 x6 x7 x8 x9 x10 x11 x12 x13 x14 g)) (by decide)
  have hPc : va_P G.1 vwCl ((wX6 G ad ado x0) ++ ((wX0 G (ado 1) x1) ++ (wX0 G (ado 2) x2))) H := va_P_l (va_P_pm p1 hP)
  have hDc : va_D (fun q : Nat => s.heap.size ≤ q) ((wX6 G ad ado x0) ++ ((wX0 G (ado 1) x1) ++ (wX0 G (ado 2) x2))) := va_D_l (va_D_pm p1 hD)
  refine cl_i_pm (Wd := (WL G ad ado ad7 x0 x1 x2 x3 x4 x5 x6 x7 x8 x9 x10 x11 x12 x13 x14 g)) (Wc := ((wX6 G ad ado x0) ++ ((wX0 G (ado 1) x1) ++ (wX0 G (ado 2) x2)))) (W' := ((wX6 G ad ado x0) ++ ((wX0 G (ado 1) x1) ++ (wX0 G (ado 2) x2')))) (W2 := (WL G ad ado ad7 x0 x1 x2' x3 x4 x5 x6 x7 x8 x9 x10 x11 x12 x13 x14 g)) (Wr := ((wX0 G (ado 3) x3) ++ ((wX0 G (ado 4) x4) ++ ((wX4 G (ado 5) x5) ++ ((wX5 G (ado 6) (ado 7 0) x6) ++ ((wX0 G (ado 7) x7) ++ ((wX3 G (ado 8) x8) ++ ((wX1 G (ado 9) (ado 10 0) x9) ++ ((wX0 G (ado 10) x10) ++ ((wX2 G (ado 11) x11) ++ ((wX2 G (ado 12) x12) ++ ((wX2 G (ado 13) x13) ++ ((wX2 G (ado 14) x14) ++ (wX7 G ad7 g)))))))))))))) p1 p2 (va_runV (As := [.int (xs (nI i + nI 1).toNatClampNeg), .int (xs (nI i + nI 2).toNatClampNeg), .int (xs (nI i + nI 3).toNatClampNeg)]) (rest := []) hC (c_X6_need l G ad ado x0 x1 x2 (xs (nI i + nI 1).toNatClampNeg) (xs (nI i + nI 2).toNatClampNeg) (xs (nI i + nI 3).toNatClampNeg) r x2' e1 _) (cwV 3 hts gL_law_X6_need rfl rfl rfl (by decide +kernel) ⟨Nat.le_of_ble_eq_true rfl, Nat.le_of_ble_eq_true rfl⟩) ⟨Pc0_blind, va_recv hT hPc (q0 := 0) (ci := 6) rfl rfl, fun U hU hW => Pc0_at (Wd := ((wX6 G ad ado x0) ++ ((wX0 G (ado 1) x1) ++ (wX0 G (ado 2) x2)))) hE hPc hDc hU hW⟩ rfl rfl hl.1 rfl (lv_room (Nat.le_of_ble_eq_true rfl)) dL_law_1016 ⟨Nat.le_of_ble_eq_true rfl, Nat.le_of_ble_eq_true rfl⟩) hS hA hP hD (fun H locs hP hD hS => ?_)
  clear p1 p2 hPc hDc
  refine lv_aload_n hx hb dL_law_1019 rfl (lv_at hl 2 rfl) ?_
  refine lv_aload_n hx hb dL_law_1020 rfl (lv_at hl 0 rfl) ?_
  refine lv_iload_n hx hb dL_law_1021 rfl (lv_at hl 3 rfl) ?_
  refine lv_iconst (v := (nI 1)) hx hb dL_law_1022 (ic_1) ?_
  refine lv_iadd hx hb dL_law_1023 ?_
  refine va_sld hx hb hX hbl hbA hS hn1 dL_law_1024 ?_
  refine lv_aload_n hx hb dL_law_1025 rfl (lv_at hl 0 rfl) ?_
  refine lv_iload_n hx hb dL_law_1026 rfl (lv_at hl 3 rfl) ?_
  refine lv_iconst (v := (nI 2)) hx hb dL_law_1027 (ic_2) ?_
  refine lv_iadd hx hb dL_law_1028 ?_
  refine va_sld hx hb hX hbl hbA hS hn2 dL_law_1029 ?_
  refine lv_aload_n hx hb dL_law_1030 rfl (lv_at hl 0 rfl) ?_
  refine lv_iload_n hx hb dL_law_1031 rfl (lv_at hl 3 rfl) ?_
  refine lv_iconst (v := (nI 3)) hx hb dL_law_1032 (ic_3) ?_
  refine lv_iadd hx hb dL_law_1033 ?_
  refine va_sld hx hb hX hbl hbA hS hn3 dL_law_1034 ?_
  have p1 : List.Perm (WL G ad ado ad7 x0 x1 x2' x3 x4 x5 x6 x7 x8 x9 x10 x11 x12 x13 x14 g) ((wX7 G ad7 g) ++ ((wX6 G ad ado x0) ++ ((wX0 G (ado 1) x1) ++ ((wX0 G (ado 2) x2') ++ ((wX0 G (ado 3) x3) ++ ((wX0 G (ado 4) x4) ++ ((wX4 G (ado 5) x5) ++ ((wX5 G (ado 6) (ado 7 0) x6) ++ ((wX0 G (ado 7) x7) ++ ((wX3 G (ado 8) x8) ++ ((wX1 G (ado 9) (ado 10 0) x9) ++ ((wX0 G (ado 10) x10) ++ ((wX2 G (ado 11) x11) ++ ((wX2 G (ado 12) x12) ++ ((wX2 G (ado 13) x13) ++ (wX2 G (ado 14) x14)))))))))))))))) := catw_perm (as := [0, 1, 2, 3, 4, 5, 6, 7, 8, 9, 10, 11, 12, 13, 14, 15]) (is := [15]) (rs := [0, 1, 2, 3, 4, 5, 6, 7, 8, 9, 10, 11, 12, 13, 14]) (PC G ad ado ad7 (M16 x0 x1 x2' x3 x4 x5 x6 x7 x8 x9 x10 x11 x12 x13 x14 g)) (by decide)
  have p2 : List.Perm (WL G ad ado ad7 x0 x1 x2' x3 x4 x5 x6 x7 x8 x9 x10 x11 x12 x13 x14 g') ((wX7 G ad7 g') ++ ((wX6 G ad ado x0) ++ ((wX0 G (ado 1) x1) ++ ((wX0 G (ado 2) x2') ++ ((wX0 G (ado 3) x3) ++ ((wX0 G (ado 4) x4) ++ ((wX4 G (ado 5) x5) ++ ((wX5 G (ado 6) (ado 7 0) x6) ++ ((wX0 G (ado 7) x7) ++ ((wX3 G (ado 8) x8) ++ ((wX1 G (ado 9) (ado 10 0) x9) ++ ((wX0 G (ado 10) x10) ++ ((wX2 G (ado 11) x11) ++ ((wX2 G (ado 12) x12) ++ ((wX2 G (ado 13) x13) ++ (wX2 G (ado 14) x14)))))))))))))))) := catw_perm (as := [0, 1, 2, 3, 4, 5, 6, 7, 8, 9, 10, 11, 12, 13, 14, 15]) (is := [15]) (rs := [0, 1, 2, 3, 4, 5, 6, 7, 8, 9, 10, 11, 12, 13, 14]) (PC G ad ado ad7 (M16 x0 x1 x2' x3 x4 x5 x6 x7 x8 x9 x10 x11 x12 x13 x14 g')) (by decide)
  have hPc : va_P G.1 vwCl (wX7 G ad7 g) H := va_P_l (va_P_pm p1 hP)
  have hDc : va_D (fun q : Nat => s.heap.size ≤ q) (wX7 G ad7 g) := va_D_l (va_D_pm p1 hD)
  refine cl_i_pm (Wd := (WL G ad ado ad7 x0 x1 x2' x3 x4 x5 x6 x7 x8 x9 x10 x11 x12 x13 x14 g)) (Wc := (wX7 G ad7 g)) (W' := (wX7 G ad7 g')) (W2 := (WL G ad ado ad7 x0 x1 x2' x3 x4 x5 x6 x7 x8 x9 x10 x11 x12 x13 x14 g')) (Wr := ((wX6 G ad ado x0) ++ ((wX0 G (ado 1) x1) ++ ((wX0 G (ado 2) x2') ++ ((wX0 G (ado 3) x3) ++ ((wX0 G (ado 4) x4) ++ ((wX4 G (ado 5) x5) ++ ((wX5 G (ado 6) (ado 7 0) x6) ++ ((wX0 G (ado 7) x7) ++ ((wX3 G (ado 8) x8) ++ ((wX1 G (ado 9) (ado 10 0) x9) ++ ((wX0 G (ado 10) x10) ++ ((wX2 G (ado 11) x11) ++ ((wX2 G (ado 12) x12) ++ ((wX2 G (ado 13) x13) ++ (wX2 G (ado 14) x14)))))))))))))))) p1 p2 (va_runV (As := [.int (xs (nI i + nI 1).toNatClampNeg), .int (xs (nI i + nI 2).toNatClampNeg), .int (xs (nI i + nI 3).toNatClampNeg)]) (rest := [.int r]) hC (c_X7_need l G ad7 g (xs (nI i + nI 1).toNatClampNeg) (xs (nI i + nI 2).toNatClampNeg) (xs (nI i + nI 3).toNatClampNeg) r g' e2 _) (cwV 3 hts gL_law_X7_need rfl rfl rfl (by decide +kernel) ⟨Nat.le_of_ble_eq_true rfl, Nat.le_of_ble_eq_true rfl⟩) ⟨Pc0_blind, va_recv hT hPc (q0 := 0) (ci := 7) rfl rfl, fun U hU hW => Pc0_at (Wd := (wX7 G ad7 g)) hE hPc hDc hU hW⟩ rfl rfl hl.1 rfl (lv_room (Nat.le_of_ble_eq_true rfl)) dL_law_1035 ⟨Nat.le_of_ble_eq_true rfl, Nat.le_of_ble_eq_true rfl⟩) hS hA hP hD (fun H locs hP hD hS => ?_)
  clear p1 p2 hPc hDc
  refine lv_icmp_eq (tgt := 1766) hx hb dL_law_1038 (by decide) (fun _ => ?_) (fun h => absurd rfl h)
  exact kk x0 x1 x2' x3 x4 x5 x6 x7 x8 x9 x10 x11 x12 x13 x14 g' H locs Rr' hP hD hS
end LAWC

/-! ===== the law's loop: what each call does to both ===== -/
section LAWC
variable {p : Program} {l : Launch} {e : Env} {s : State} {m : MethodId} {args : Array Value} {below : List Frame} {meth : Method} {c : Code} {G : Gt} {ad ad7 : Nat → Nat} {ado : Nat → Nat → Nat} {sk sv : Nat → Nat} {b L i : Nat} {xs : Nat → Int32} {x0 x1 x2 x3 x4 x5 x6 x7 x8 x9 x10 x11 x12 x13 x14 g : Mem} {H : Heap} {locs : List Loc} {ls : Array Slot} {Q : State → Prop}
set_option maxHeartbeats 8000000 in
set_option maxRecDepth 100000 in
theorem law_luck (hC : CallFix p m c cL_law 4 s args wsL_law RL) (hE : EV G s) (hZ : SV sk sv (fun q : Nat => s.heap.size ≤ q) s s.heap) (hX : va_X b L xs s s.heap) (hbl : b < s.heap.size) (hi : i + 6 ≤ L) (hL : L ≤ 384) (Rr : Rel x0 x1 x3 x4 x5 x6 x8 x11 x12 x13 x14 g) (hP : va_P G.1 vwCl (WL G ad ado ad7 x0 x1 x2 x3 x4 x5 x6 x7 x8 x9 x10 x11 x12 x13 x14 g) H) (hD : va_D (fun q : Nat => s.heap.size ≤ q) (WL G ad ado ad7 x0 x1 x2 x3 x4 x5 x6 x7 x8 x9 x10 x11 x12 x13 x14 g)) (hS : va_S (fun q : Nat => s.heap.size ≤ q) s.heap H locs) (hl : lv_has ls 4 [(0, .ref b), (1, .ref (ad 0)), (2, .ref (ad7 0)), (3, .int (nI i))]) (kk : GoOn p l e s m args below meth c G ad ado ad7 ls Q) : W p l e room_1 s m args below meth c H locs 100 2657 Q (F0 m 1229 ls []) := by
  have hA : ∀ q : Nat, s.heap.size ≤ q → (fun q : Nat => s.heap.size ≤ q) q := fun _ h => h
  have hbA : ¬ (fun q : Nat => s.heap.size ≤ q) b := Nat.not_le.mpr hbl
  obtain ⟨hx, hb, hml, hown, hts⟩ := id hC
  have hT : va_K G.1 vwCl (tyL G) s := hE.1
  have hn1 : vp_in (nI i + nI 1) L := by rw [nI_add]; exact vp_in_nI (by omega) (by omega)
  have hn2 : vp_in (nI i + nI 2) L := by rw [nI_add]; exact vp_in_nI (by omega) (by omega)
  have hn3 : vp_in (nI i + nI 3) L := by rw [nI_add]; exact vp_in_nI (by omega) (by omega)
  have hn4 : vp_in (nI i + nI 4) L := by rw [nI_add]; exact vp_in_nI (by omega) (by omega)
  have hn5 : vp_in (nI i + nI 5) L := by rw [nI_add]; exact vp_in_nI (by omega) (by omega)
  obtain ⟨r, x2', g', e1, e2, Rr'⟩ := op_luck Rr x2 (xs (nI i + nI 1).toNatClampNeg) (xs (nI i + nI 2).toNatClampNeg) (xs (nI i + nI 3).toNatClampNeg) (xs (nI i + nI 4).toNatClampNeg) (xs (nI i + nI 5).toNatClampNeg)
  refine lv_aload_n hx hb dL_law_1229 rfl (lv_at hl 1 rfl) ?_
  refine lv_aload_n hx hb dL_law_1230 rfl (lv_at hl 0 rfl) ?_
  refine lv_iload_n hx hb dL_law_1231 rfl (lv_at hl 3 rfl) ?_
  refine lv_iconst (v := (nI 1)) hx hb dL_law_1232 (ic_1) ?_
  refine lv_iadd hx hb dL_law_1233 ?_
  refine va_sld hx hb hX hbl hbA hS hn1 dL_law_1234 ?_
  refine lv_aload_n hx hb dL_law_1235 rfl (lv_at hl 0 rfl) ?_
  refine lv_iload_n hx hb dL_law_1236 rfl (lv_at hl 3 rfl) ?_
  refine lv_iconst (v := (nI 2)) hx hb dL_law_1237 (ic_2) ?_
  refine lv_iadd hx hb dL_law_1238 ?_
  refine va_sld hx hb hX hbl hbA hS hn2 dL_law_1239 ?_
  refine lv_aload_n hx hb dL_law_1240 rfl (lv_at hl 0 rfl) ?_
  refine lv_iload_n hx hb dL_law_1241 rfl (lv_at hl 3 rfl) ?_
  refine lv_iconst (v := (nI 3)) hx hb dL_law_1242 (ic_3) ?_
  refine lv_iadd hx hb dL_law_1243 ?_
  refine va_sld hx hb hX hbl hbA hS hn3 dL_law_1244 ?_
  refine lv_aload_n hx hb dL_law_1245 rfl (lv_at hl 0 rfl) ?_
  refine lv_iload_n hx hb dL_law_1246 rfl (lv_at hl 3 rfl) ?_
  refine lv_iconst (v := (nI 4)) hx hb dL_law_1247 (ic_4) ?_
  refine lv_iadd hx hb dL_law_1248 ?_
  refine va_sld hx hb hX hbl hbA hS hn4 dL_law_1249 ?_
  refine lv_aload_n hx hb dL_law_1250 rfl (lv_at hl 0 rfl) ?_
  refine lv_iload_n hx hb dL_law_1251 rfl (lv_at hl 3 rfl) ?_
  refine lv_iconst (v := (nI 5)) hx hb dL_law_1252 (ic_5) ?_
  refine lv_iadd hx hb dL_law_1253 ?_
  refine va_sld hx hb hX hbl hbA hS hn5 dL_law_1254 ?_
  have p1 : List.Perm (WL G ad ado ad7 x0 x1 x2 x3 x4 x5 x6 x7 x8 x9 x10 x11 x12 x13 x14 g) (((wX6 G ad ado x0) ++ ((wX0 G (ado 1) x1) ++ (wX0 G (ado 2) x2))) ++ ((wX0 G (ado 3) x3) ++ ((wX0 G (ado 4) x4) ++ ((wX4 G (ado 5) x5) ++ ((wX5 G (ado 6) (ado 7 0) x6) ++ ((wX0 G (ado 7) x7) ++ ((wX3 G (ado 8) x8) ++ ((wX1 G (ado 9) (ado 10 0) x9) ++ ((wX0 G (ado 10) x10) ++ ((wX2 G (ado 11) x11) ++ ((wX2 G (ado 12) x12) ++ ((wX2 G (ado 13) x13) ++ ((wX2 G (ado 14) x14) ++ (wX7 G ad7 g)))))))))))))) := catw_perm (as := [0, 1, 2, 3, 4, 5, 6, 7, 8, 9, 10, 11, 12, 13, 14, 15]) (is := [0, 1, 2]) (rs := [3, 4, 5, 6, 7, 8, 9, 10, 11, 12, 13, 14, 15]) (PC G ad ado ad7 (M16 x0 x1 x2 x3 x4 x5 x6 x7 x8 x9 x10 x11 x12 x13 x14 g)) (by decide)
  have p2 : List.Perm (WL G ad ado ad7 x0 x1 x2' x3 x4 x5 x6 x7 x8 x9 x10 x11 x12 x13 x14 g) (((wX6 G ad ado x0) ++ ((wX0 G (ado 1) x1) ++ (wX0 G (ado 2) x2'))) ++ ((wX0 G (ado 3) x3) ++ ((wX0 G (ado 4) x4) ++ ((wX4 G (ado 5) x5) ++ ((wX5 G (ado 6) (ado 7 0) x6) ++ ((wX0 G (ado 7) x7) ++ ((wX3 G (ado 8) x8) ++ ((wX1 G (ado 9) (ado 10 0) x9) ++ ((wX0 G (ado 10) x10) ++ ((wX2 G (ado 11) x11) ++ ((wX2 G (ado 12) x12) ++ ((wX2 G (ado 13) x13) ++ ((wX2 G (ado 14) x14) ++ (wX7 G ad7 g)))))))))))))) := catw_perm (as := [0, 1, 2, 3, 4, 5, 6, 7, 8, 9, 10, 11, 12, 13, 14, 15]) (is := [0, 1, 2]) (rs := [3, 4, 5, 6, 7, 8, 9, 10, 11, 12, 13, 14, 15]) (PC G ad ado ad7 (M16 x0 x1 x2' x3 x4 x5 x6 x7 x8 x9 x10 x11 x12 x13 x14 g)) (by decide)
  have hPc : va_P G.1 vwCl ((wX6 G ad ado x0) ++ ((wX0 G (ado 1) x1) ++ (wX0 G (ado 2) x2))) H := va_P_l (va_P_pm p1 hP)
  have hDc : va_D (fun q : Nat => s.heap.size ≤ q) ((wX6 G ad ado x0) ++ ((wX0 G (ado 1) x1) ++ (wX0 G (ado 2) x2))) := va_D_l (va_D_pm p1 hD)
  refine cl_l_pm (Wd := (WL G ad ado ad7 x0 x1 x2 x3 x4 x5 x6 x7 x8 x9 x10 x11 x12 x13 x14 g)) (Wc := ((wX6 G ad ado x0) ++ ((wX0 G (ado 1) x1) ++ (wX0 G (ado 2) x2)))) (W' := ((wX6 G ad ado x0) ++ ((wX0 G (ado 1) x1) ++ (wX0 G (ado 2) x2')))) (W2 := (WL G ad ado ad7 x0 x1 x2' x3 x4 x5 x6 x7 x8 x9 x10 x11 x12 x13 x14 g)) (Wr := ((wX0 G (ado 3) x3) ++ ((wX0 G (ado 4) x4) ++ ((wX4 G (ado 5) x5) ++ ((wX5 G (ado 6) (ado 7 0) x6) ++ ((wX0 G (ado 7) x7) ++ ((wX3 G (ado 8) x8) ++ ((wX1 G (ado 9) (ado 10 0) x9) ++ ((wX0 G (ado 10) x10) ++ ((wX2 G (ado 11) x11) ++ ((wX2 G (ado 12) x12) ++ ((wX2 G (ado 13) x13) ++ ((wX2 G (ado 14) x14) ++ (wX7 G ad7 g)))))))))))))) p1 p2 (va_runV (As := [.int (xs (nI i + nI 1).toNatClampNeg), .int (xs (nI i + nI 2).toNatClampNeg), .int (xs (nI i + nI 3).toNatClampNeg), .int (xs (nI i + nI 4).toNatClampNeg), .int (xs (nI i + nI 5).toNatClampNeg)]) (rest := []) hC (c_X6_luck l G ad ado x0 x1 x2 (xs (nI i + nI 1).toNatClampNeg) (xs (nI i + nI 2).toNatClampNeg) (xs (nI i + nI 3).toNatClampNeg) (xs (nI i + nI 4).toNatClampNeg) (xs (nI i + nI 5).toNatClampNeg) r x2' e1 _) (cwV 5 hts gL_law_X6_luck rfl rfl rfl (by decide +kernel) ⟨Nat.le_of_ble_eq_true rfl, Nat.le_of_ble_eq_true rfl⟩) ⟨Pc0_blind, va_recv hT hPc (q0 := 0) (ci := 6) rfl rfl, fun U hU hW => Pc0_at (Wd := ((wX6 G ad ado x0) ++ ((wX0 G (ado 1) x1) ++ (wX0 G (ado 2) x2)))) hE hPc hDc hU hW⟩ rfl rfl hl.1 rfl (lv_room (Nat.le_of_ble_eq_true rfl)) dL_law_1255 ⟨Nat.le_of_ble_eq_true rfl, Nat.le_of_ble_eq_true rfl⟩) hS hA hP hD (fun H locs hP hD hS => ?_)
  clear p1 p2 hPc hDc
  refine lv_aload_n hx hb dL_law_1258 rfl (lv_at hl 2 rfl) ?_
  refine lv_aload_n hx hb dL_law_1259 rfl (lv_at hl 0 rfl) ?_
  refine lv_iload_n hx hb dL_law_1260 rfl (lv_at hl 3 rfl) ?_
  refine lv_iconst (v := (nI 1)) hx hb dL_law_1261 (ic_1) ?_
  refine lv_iadd hx hb dL_law_1262 ?_
  refine va_sld hx hb hX hbl hbA hS hn1 dL_law_1263 ?_
  refine lv_aload_n hx hb dL_law_1264 rfl (lv_at hl 0 rfl) ?_
  refine lv_iload_n hx hb dL_law_1265 rfl (lv_at hl 3 rfl) ?_
  refine lv_iconst (v := (nI 2)) hx hb dL_law_1266 (ic_2) ?_
  refine lv_iadd hx hb dL_law_1267 ?_
  refine va_sld hx hb hX hbl hbA hS hn2 dL_law_1268 ?_
  refine lv_aload_n hx hb dL_law_1269 rfl (lv_at hl 0 rfl) ?_
  refine lv_iload_n hx hb dL_law_1270 rfl (lv_at hl 3 rfl) ?_
  refine lv_iconst (v := (nI 3)) hx hb dL_law_1271 (ic_3) ?_
  refine lv_iadd hx hb dL_law_1272 ?_
  refine va_sld hx hb hX hbl hbA hS hn3 dL_law_1273 ?_
  refine lv_aload_n hx hb dL_law_1274 rfl (lv_at hl 0 rfl) ?_
  refine lv_iload_n hx hb dL_law_1275 rfl (lv_at hl 3 rfl) ?_
  refine lv_iconst (v := (nI 4)) hx hb dL_law_1276 (ic_4) ?_
  refine lv_iadd hx hb dL_law_1277 ?_
  refine va_sld hx hb hX hbl hbA hS hn4 dL_law_1278 ?_
  refine lv_aload_n hx hb dL_law_1279 rfl (lv_at hl 0 rfl) ?_
  refine lv_iload_n hx hb dL_law_1280 rfl (lv_at hl 3 rfl) ?_
  refine lv_iconst (v := (nI 5)) hx hb dL_law_1281 (ic_5) ?_
  refine lv_iadd hx hb dL_law_1282 ?_
  refine va_sld hx hb hX hbl hbA hS hn5 dL_law_1283 ?_
  have p1 : List.Perm (WL G ad ado ad7 x0 x1 x2' x3 x4 x5 x6 x7 x8 x9 x10 x11 x12 x13 x14 g) ((wX7 G ad7 g) ++ ((wX6 G ad ado x0) ++ ((wX0 G (ado 1) x1) ++ ((wX0 G (ado 2) x2') ++ ((wX0 G (ado 3) x3) ++ ((wX0 G (ado 4) x4) ++ ((wX4 G (ado 5) x5) ++ ((wX5 G (ado 6) (ado 7 0) x6) ++ ((wX0 G (ado 7) x7) ++ ((wX3 G (ado 8) x8) ++ ((wX1 G (ado 9) (ado 10 0) x9) ++ ((wX0 G (ado 10) x10) ++ ((wX2 G (ado 11) x11) ++ ((wX2 G (ado 12) x12) ++ ((wX2 G (ado 13) x13) ++ (wX2 G (ado 14) x14)))))))))))))))) := catw_perm (as := [0, 1, 2, 3, 4, 5, 6, 7, 8, 9, 10, 11, 12, 13, 14, 15]) (is := [15]) (rs := [0, 1, 2, 3, 4, 5, 6, 7, 8, 9, 10, 11, 12, 13, 14]) (PC G ad ado ad7 (M16 x0 x1 x2' x3 x4 x5 x6 x7 x8 x9 x10 x11 x12 x13 x14 g)) (by decide)
  have p2 : List.Perm (WL G ad ado ad7 x0 x1 x2' x3 x4 x5 x6 x7 x8 x9 x10 x11 x12 x13 x14 g') ((wX7 G ad7 g') ++ ((wX6 G ad ado x0) ++ ((wX0 G (ado 1) x1) ++ ((wX0 G (ado 2) x2') ++ ((wX0 G (ado 3) x3) ++ ((wX0 G (ado 4) x4) ++ ((wX4 G (ado 5) x5) ++ ((wX5 G (ado 6) (ado 7 0) x6) ++ ((wX0 G (ado 7) x7) ++ ((wX3 G (ado 8) x8) ++ ((wX1 G (ado 9) (ado 10 0) x9) ++ ((wX0 G (ado 10) x10) ++ ((wX2 G (ado 11) x11) ++ ((wX2 G (ado 12) x12) ++ ((wX2 G (ado 13) x13) ++ (wX2 G (ado 14) x14)))))))))))))))) := catw_perm (as := [0, 1, 2, 3, 4, 5, 6, 7, 8, 9, 10, 11, 12, 13, 14, 15]) (is := [15]) (rs := [0, 1, 2, 3, 4, 5, 6, 7, 8, 9, 10, 11, 12, 13, 14]) (PC G ad ado ad7 (M16 x0 x1 x2' x3 x4 x5 x6 x7 x8 x9 x10 x11 x12 x13 x14 g')) (by decide)
  have hPc : va_P G.1 vwCl (wX7 G ad7 g) H := va_P_l (va_P_pm p1 hP)
  have hDc : va_D (fun q : Nat => s.heap.size ≤ q) (wX7 G ad7 g) := va_D_l (va_D_pm p1 hD)
  refine cl_l_pm (Wd := (WL G ad ado ad7 x0 x1 x2' x3 x4 x5 x6 x7 x8 x9 x10 x11 x12 x13 x14 g)) (Wc := (wX7 G ad7 g)) (W' := (wX7 G ad7 g')) (W2 := (WL G ad ado ad7 x0 x1 x2' x3 x4 x5 x6 x7 x8 x9 x10 x11 x12 x13 x14 g')) (Wr := ((wX6 G ad ado x0) ++ ((wX0 G (ado 1) x1) ++ ((wX0 G (ado 2) x2') ++ ((wX0 G (ado 3) x3) ++ ((wX0 G (ado 4) x4) ++ ((wX4 G (ado 5) x5) ++ ((wX5 G (ado 6) (ado 7 0) x6) ++ ((wX0 G (ado 7) x7) ++ ((wX3 G (ado 8) x8) ++ ((wX1 G (ado 9) (ado 10 0) x9) ++ ((wX0 G (ado 10) x10) ++ ((wX2 G (ado 11) x11) ++ ((wX2 G (ado 12) x12) ++ ((wX2 G (ado 13) x13) ++ (wX2 G (ado 14) x14)))))))))))))))) p1 p2 (va_runV (As := [.int (xs (nI i + nI 1).toNatClampNeg), .int (xs (nI i + nI 2).toNatClampNeg), .int (xs (nI i + nI 3).toNatClampNeg), .int (xs (nI i + nI 4).toNatClampNeg), .int (xs (nI i + nI 5).toNatClampNeg)]) (rest := [.long r]) hC (c_X7_luck l G ad7 g (xs (nI i + nI 1).toNatClampNeg) (xs (nI i + nI 2).toNatClampNeg) (xs (nI i + nI 3).toNatClampNeg) (xs (nI i + nI 4).toNatClampNeg) (xs (nI i + nI 5).toNatClampNeg) r g' e2 _) (cwV 5 hts gL_law_X7_luck rfl rfl rfl (by decide +kernel) ⟨Nat.le_of_ble_eq_true rfl, Nat.le_of_ble_eq_true rfl⟩) ⟨Pc0_blind, va_recv hT hPc (q0 := 0) (ci := 7) rfl rfl, fun U hU hW => Pc0_at (Wd := (wX7 G ad7 g)) hE hPc hDc hU hW⟩ rfl rfl hl.1 rfl (lv_room (Nat.le_of_ble_eq_true rfl)) dL_law_1284 ⟨Nat.le_of_ble_eq_true rfl, Nat.le_of_ble_eq_true rfl⟩) hS hA hP hD (fun H locs hP hD hS => ?_)
  clear p1 p2 hPc hDc
  refine W.lcmp hx hb dL_law_1287 ?_
  refine lv_if_eq (tgt := 1766) hx hb dL_law_1288 (by decide) (fun _ => ?_) (fun h => absurd (lg_self r) h)
  exact kk x0 x1 x2' x3 x4 x5 x6 x7 x8 x9 x10 x11 x12 x13 x14 g' H locs Rr' hP hD hS
set_option maxHeartbeats 8000000 in
set_option maxRecDepth 100000 in
theorem law_mean (hC : CallFix p m c cL_law 4 s args wsL_law RL) (hE : EV G s) (hZ : SV sk sv (fun q : Nat => s.heap.size ≤ q) s s.heap) (hX : va_X b L xs s s.heap) (hbl : b < s.heap.size) (hi : i + 6 ≤ L) (hL : L ≤ 384) (Rr : Rel x0 x1 x3 x4 x5 x6 x8 x11 x12 x13 x14 g) (hP : va_P G.1 vwCl (WL G ad ado ad7 x0 x1 x2 x3 x4 x5 x6 x7 x8 x9 x10 x11 x12 x13 x14 g) H) (hD : va_D (fun q : Nat => s.heap.size ≤ q) (WL G ad ado ad7 x0 x1 x2 x3 x4 x5 x6 x7 x8 x9 x10 x11 x12 x13 x14 g)) (hS : va_S (fun q : Nat => s.heap.size ≤ q) s.heap H locs) (hl : lv_has ls 4 [(0, .ref b), (1, .ref (ad 0)), (2, .ref (ad7 0)), (3, .int (nI i))]) (kk : GoOn p l e s m args below meth c G ad ado ad7 ls Q) : W p l e room_1 s m args below meth c H locs 100 2657 Q (F0 m 1293 ls []) := by
  have hA : ∀ q : Nat, s.heap.size ≤ q → (fun q : Nat => s.heap.size ≤ q) q := fun _ h => h
  have hbA : ¬ (fun q : Nat => s.heap.size ≤ q) b := Nat.not_le.mpr hbl
  obtain ⟨hx, hb, hml, hown, hts⟩ := id hC
  have hT : va_K G.1 vwCl (tyL G) s := hE.1
  have hn1 : vp_in (nI i + nI 1) L := by rw [nI_add]; exact vp_in_nI (by omega) (by omega)
  have hn2 : vp_in (nI i + nI 2) L := by rw [nI_add]; exact vp_in_nI (by omega) (by omega)
  have hn3 : vp_in (nI i + nI 3) L := by rw [nI_add]; exact vp_in_nI (by omega) (by omega)
  have hn4 : vp_in (nI i + nI 4) L := by rw [nI_add]; exact vp_in_nI (by omega) (by omega)
  obtain ⟨r, x2', g', e1, e2, Rr'⟩ := op_mean Rr x2 (xs (nI i + nI 1).toNatClampNeg) (xs (nI i + nI 2).toNatClampNeg) (xs (nI i + nI 3).toNatClampNeg) (xs (nI i + nI 4).toNatClampNeg)
  refine lv_aload_n hx hb dL_law_1293 rfl (lv_at hl 1 rfl) ?_
  refine lv_aload_n hx hb dL_law_1294 rfl (lv_at hl 0 rfl) ?_
  refine lv_iload_n hx hb dL_law_1295 rfl (lv_at hl 3 rfl) ?_
  refine lv_iconst (v := (nI 1)) hx hb dL_law_1296 (ic_1) ?_
  refine lv_iadd hx hb dL_law_1297 ?_
  refine va_sld hx hb hX hbl hbA hS hn1 dL_law_1298 ?_
  refine lv_aload_n hx hb dL_law_1299 rfl (lv_at hl 0 rfl) ?_
  refine lv_iload_n hx hb dL_law_1300 rfl (lv_at hl 3 rfl) ?_
  refine lv_iconst (v := (nI 2)) hx hb dL_law_1301 (ic_2) ?_
  refine lv_iadd hx hb dL_law_1302 ?_
  refine va_sld hx hb hX hbl hbA hS hn2 dL_law_1303 ?_
  refine lv_aload_n hx hb dL_law_1304 rfl (lv_at hl 0 rfl) ?_
  refine lv_iload_n hx hb dL_law_1305 rfl (lv_at hl 3 rfl) ?_
  refine lv_iconst (v := (nI 3)) hx hb dL_law_1306 (ic_3) ?_
  refine lv_iadd hx hb dL_law_1307 ?_
  refine va_sld hx hb hX hbl hbA hS hn3 dL_law_1308 ?_
  refine lv_aload_n hx hb dL_law_1309 rfl (lv_at hl 0 rfl) ?_
  refine lv_iload_n hx hb dL_law_1310 rfl (lv_at hl 3 rfl) ?_
  refine lv_iconst (v := (nI 4)) hx hb dL_law_1311 (ic_4) ?_
  refine lv_iadd hx hb dL_law_1312 ?_
  refine va_sld hx hb hX hbl hbA hS hn4 dL_law_1313 ?_
  have p1 : List.Perm (WL G ad ado ad7 x0 x1 x2 x3 x4 x5 x6 x7 x8 x9 x10 x11 x12 x13 x14 g) (((wX6 G ad ado x0) ++ ((wX0 G (ado 1) x1) ++ (wX0 G (ado 2) x2))) ++ ((wX0 G (ado 3) x3) ++ ((wX0 G (ado 4) x4) ++ ((wX4 G (ado 5) x5) ++ ((wX5 G (ado 6) (ado 7 0) x6) ++ ((wX0 G (ado 7) x7) ++ ((wX3 G (ado 8) x8) ++ ((wX1 G (ado 9) (ado 10 0) x9) ++ ((wX0 G (ado 10) x10) ++ ((wX2 G (ado 11) x11) ++ ((wX2 G (ado 12) x12) ++ ((wX2 G (ado 13) x13) ++ ((wX2 G (ado 14) x14) ++ (wX7 G ad7 g)))))))))))))) := catw_perm (as := [0, 1, 2, 3, 4, 5, 6, 7, 8, 9, 10, 11, 12, 13, 14, 15]) (is := [0, 1, 2]) (rs := [3, 4, 5, 6, 7, 8, 9, 10, 11, 12, 13, 14, 15]) (PC G ad ado ad7 (M16 x0 x1 x2 x3 x4 x5 x6 x7 x8 x9 x10 x11 x12 x13 x14 g)) (by decide)
  have p2 : List.Perm (WL G ad ado ad7 x0 x1 x2' x3 x4 x5 x6 x7 x8 x9 x10 x11 x12 x13 x14 g) (((wX6 G ad ado x0) ++ ((wX0 G (ado 1) x1) ++ (wX0 G (ado 2) x2'))) ++ ((wX0 G (ado 3) x3) ++ ((wX0 G (ado 4) x4) ++ ((wX4 G (ado 5) x5) ++ ((wX5 G (ado 6) (ado 7 0) x6) ++ ((wX0 G (ado 7) x7) ++ ((wX3 G (ado 8) x8) ++ ((wX1 G (ado 9) (ado 10 0) x9) ++ ((wX0 G (ado 10) x10) ++ ((wX2 G (ado 11) x11) ++ ((wX2 G (ado 12) x12) ++ ((wX2 G (ado 13) x13) ++ ((wX2 G (ado 14) x14) ++ (wX7 G ad7 g)))))))))))))) := catw_perm (as := [0, 1, 2, 3, 4, 5, 6, 7, 8, 9, 10, 11, 12, 13, 14, 15]) (is := [0, 1, 2]) (rs := [3, 4, 5, 6, 7, 8, 9, 10, 11, 12, 13, 14, 15]) (PC G ad ado ad7 (M16 x0 x1 x2' x3 x4 x5 x6 x7 x8 x9 x10 x11 x12 x13 x14 g)) (by decide)
  have hPc : va_P G.1 vwCl ((wX6 G ad ado x0) ++ ((wX0 G (ado 1) x1) ++ (wX0 G (ado 2) x2))) H := va_P_l (va_P_pm p1 hP)
  have hDc : va_D (fun q : Nat => s.heap.size ≤ q) ((wX6 G ad ado x0) ++ ((wX0 G (ado 1) x1) ++ (wX0 G (ado 2) x2))) := va_D_l (va_D_pm p1 hD)
  refine cl_l_pm (Wd := (WL G ad ado ad7 x0 x1 x2 x3 x4 x5 x6 x7 x8 x9 x10 x11 x12 x13 x14 g)) (Wc := ((wX6 G ad ado x0) ++ ((wX0 G (ado 1) x1) ++ (wX0 G (ado 2) x2)))) (W' := ((wX6 G ad ado x0) ++ ((wX0 G (ado 1) x1) ++ (wX0 G (ado 2) x2')))) (W2 := (WL G ad ado ad7 x0 x1 x2' x3 x4 x5 x6 x7 x8 x9 x10 x11 x12 x13 x14 g)) (Wr := ((wX0 G (ado 3) x3) ++ ((wX0 G (ado 4) x4) ++ ((wX4 G (ado 5) x5) ++ ((wX5 G (ado 6) (ado 7 0) x6) ++ ((wX0 G (ado 7) x7) ++ ((wX3 G (ado 8) x8) ++ ((wX1 G (ado 9) (ado 10 0) x9) ++ ((wX0 G (ado 10) x10) ++ ((wX2 G (ado 11) x11) ++ ((wX2 G (ado 12) x12) ++ ((wX2 G (ado 13) x13) ++ ((wX2 G (ado 14) x14) ++ (wX7 G ad7 g)))))))))))))) p1 p2 (va_runV (As := [.int (xs (nI i + nI 1).toNatClampNeg), .int (xs (nI i + nI 2).toNatClampNeg), .int (xs (nI i + nI 3).toNatClampNeg), .int (xs (nI i + nI 4).toNatClampNeg)]) (rest := []) hC (c_X6_mean l G ad ado x0 x1 x2 (xs (nI i + nI 1).toNatClampNeg) (xs (nI i + nI 2).toNatClampNeg) (xs (nI i + nI 3).toNatClampNeg) (xs (nI i + nI 4).toNatClampNeg) r x2' e1 _) (cwV 4 hts gL_law_X6_mean rfl rfl rfl (by decide +kernel) ⟨Nat.le_of_ble_eq_true rfl, Nat.le_of_ble_eq_true rfl⟩) ⟨Pc0_blind, va_recv hT hPc (q0 := 0) (ci := 6) rfl rfl, fun U hU hW => Pc0_at (Wd := ((wX6 G ad ado x0) ++ ((wX0 G (ado 1) x1) ++ (wX0 G (ado 2) x2)))) hE hPc hDc hU hW⟩ rfl rfl hl.1 rfl (lv_room (Nat.le_of_ble_eq_true rfl)) dL_law_1314 ⟨Nat.le_of_ble_eq_true rfl, Nat.le_of_ble_eq_true rfl⟩) hS hA hP hD (fun H locs hP hD hS => ?_)
  clear p1 p2 hPc hDc
  refine lv_aload_n hx hb dL_law_1317 rfl (lv_at hl 2 rfl) ?_
  refine lv_aload_n hx hb dL_law_1318 rfl (lv_at hl 0 rfl) ?_
  refine lv_iload_n hx hb dL_law_1319 rfl (lv_at hl 3 rfl) ?_
  refine lv_iconst (v := (nI 1)) hx hb dL_law_1320 (ic_1) ?_
  refine lv_iadd hx hb dL_law_1321 ?_
  refine va_sld hx hb hX hbl hbA hS hn1 dL_law_1322 ?_
  refine lv_aload_n hx hb dL_law_1323 rfl (lv_at hl 0 rfl) ?_
  refine lv_iload_n hx hb dL_law_1324 rfl (lv_at hl 3 rfl) ?_
  refine lv_iconst (v := (nI 2)) hx hb dL_law_1325 (ic_2) ?_
  refine lv_iadd hx hb dL_law_1326 ?_
  refine va_sld hx hb hX hbl hbA hS hn2 dL_law_1327 ?_
  refine lv_aload_n hx hb dL_law_1328 rfl (lv_at hl 0 rfl) ?_
  refine lv_iload_n hx hb dL_law_1329 rfl (lv_at hl 3 rfl) ?_
  refine lv_iconst (v := (nI 3)) hx hb dL_law_1330 (ic_3) ?_
  refine lv_iadd hx hb dL_law_1331 ?_
  refine va_sld hx hb hX hbl hbA hS hn3 dL_law_1332 ?_
  refine lv_aload_n hx hb dL_law_1333 rfl (lv_at hl 0 rfl) ?_
  refine lv_iload_n hx hb dL_law_1334 rfl (lv_at hl 3 rfl) ?_
  refine lv_iconst (v := (nI 4)) hx hb dL_law_1335 (ic_4) ?_
  refine lv_iadd hx hb dL_law_1336 ?_
  refine va_sld hx hb hX hbl hbA hS hn4 dL_law_1337 ?_
  have p1 : List.Perm (WL G ad ado ad7 x0 x1 x2' x3 x4 x5 x6 x7 x8 x9 x10 x11 x12 x13 x14 g) ((wX7 G ad7 g) ++ ((wX6 G ad ado x0) ++ ((wX0 G (ado 1) x1) ++ ((wX0 G (ado 2) x2') ++ ((wX0 G (ado 3) x3) ++ ((wX0 G (ado 4) x4) ++ ((wX4 G (ado 5) x5) ++ ((wX5 G (ado 6) (ado 7 0) x6) ++ ((wX0 G (ado 7) x7) ++ ((wX3 G (ado 8) x8) ++ ((wX1 G (ado 9) (ado 10 0) x9) ++ ((wX0 G (ado 10) x10) ++ ((wX2 G (ado 11) x11) ++ ((wX2 G (ado 12) x12) ++ ((wX2 G (ado 13) x13) ++ (wX2 G (ado 14) x14)))))))))))))))) := catw_perm (as := [0, 1, 2, 3, 4, 5, 6, 7, 8, 9, 10, 11, 12, 13, 14, 15]) (is := [15]) (rs := [0, 1, 2, 3, 4, 5, 6, 7, 8, 9, 10, 11, 12, 13, 14]) (PC G ad ado ad7 (M16 x0 x1 x2' x3 x4 x5 x6 x7 x8 x9 x10 x11 x12 x13 x14 g)) (by decide)
  have p2 : List.Perm (WL G ad ado ad7 x0 x1 x2' x3 x4 x5 x6 x7 x8 x9 x10 x11 x12 x13 x14 g') ((wX7 G ad7 g') ++ ((wX6 G ad ado x0) ++ ((wX0 G (ado 1) x1) ++ ((wX0 G (ado 2) x2') ++ ((wX0 G (ado 3) x3) ++ ((wX0 G (ado 4) x4) ++ ((wX4 G (ado 5) x5) ++ ((wX5 G (ado 6) (ado 7 0) x6) ++ ((wX0 G (ado 7) x7) ++ ((wX3 G (ado 8) x8) ++ ((wX1 G (ado 9) (ado 10 0) x9) ++ ((wX0 G (ado 10) x10) ++ ((wX2 G (ado 11) x11) ++ ((wX2 G (ado 12) x12) ++ ((wX2 G (ado 13) x13) ++ (wX2 G (ado 14) x14)))))))))))))))) := catw_perm (as := [0, 1, 2, 3, 4, 5, 6, 7, 8, 9, 10, 11, 12, 13, 14, 15]) (is := [15]) (rs := [0, 1, 2, 3, 4, 5, 6, 7, 8, 9, 10, 11, 12, 13, 14]) (PC G ad ado ad7 (M16 x0 x1 x2' x3 x4 x5 x6 x7 x8 x9 x10 x11 x12 x13 x14 g')) (by decide)
  have hPc : va_P G.1 vwCl (wX7 G ad7 g) H := va_P_l (va_P_pm p1 hP)
  have hDc : va_D (fun q : Nat => s.heap.size ≤ q) (wX7 G ad7 g) := va_D_l (va_D_pm p1 hD)
  refine cl_l_pm (Wd := (WL G ad ado ad7 x0 x1 x2' x3 x4 x5 x6 x7 x8 x9 x10 x11 x12 x13 x14 g)) (Wc := (wX7 G ad7 g)) (W' := (wX7 G ad7 g')) (W2 := (WL G ad ado ad7 x0 x1 x2' x3 x4 x5 x6 x7 x8 x9 x10 x11 x12 x13 x14 g')) (Wr := ((wX6 G ad ado x0) ++ ((wX0 G (ado 1) x1) ++ ((wX0 G (ado 2) x2') ++ ((wX0 G (ado 3) x3) ++ ((wX0 G (ado 4) x4) ++ ((wX4 G (ado 5) x5) ++ ((wX5 G (ado 6) (ado 7 0) x6) ++ ((wX0 G (ado 7) x7) ++ ((wX3 G (ado 8) x8) ++ ((wX1 G (ado 9) (ado 10 0) x9) ++ ((wX0 G (ado 10) x10) ++ ((wX2 G (ado 11) x11) ++ ((wX2 G (ado 12) x12) ++ ((wX2 G (ado 13) x13) ++ (wX2 G (ado 14) x14)))))))))))))))) p1 p2 (va_runV (As := [.int (xs (nI i + nI 1).toNatClampNeg), .int (xs (nI i + nI 2).toNatClampNeg), .int (xs (nI i + nI 3).toNatClampNeg), .int (xs (nI i + nI 4).toNatClampNeg)]) (rest := [.long r]) hC (c_X7_mean l G ad7 g (xs (nI i + nI 1).toNatClampNeg) (xs (nI i + nI 2).toNatClampNeg) (xs (nI i + nI 3).toNatClampNeg) (xs (nI i + nI 4).toNatClampNeg) r g' e2 _) (cwV 4 hts gL_law_X7_mean rfl rfl rfl (by decide +kernel) ⟨Nat.le_of_ble_eq_true rfl, Nat.le_of_ble_eq_true rfl⟩) ⟨Pc0_blind, va_recv hT hPc (q0 := 0) (ci := 7) rfl rfl, fun U hU hW => Pc0_at (Wd := (wX7 G ad7 g)) hE hPc hDc hU hW⟩ rfl rfl hl.1 rfl (lv_room (Nat.le_of_ble_eq_true rfl)) dL_law_1338 ⟨Nat.le_of_ble_eq_true rfl, Nat.le_of_ble_eq_true rfl⟩) hS hA hP hD (fun H locs hP hD hS => ?_)
  clear p1 p2 hPc hDc
  refine W.lcmp hx hb dL_law_1341 ?_
  refine lv_if_eq (tgt := 1766) hx hb dL_law_1342 (by decide) (fun _ => ?_) (fun h => absurd (lg_self r) h)
  exact kk x0 x1 x2' x3 x4 x5 x6 x7 x8 x9 x10 x11 x12 x13 x14 g' H locs Rr' hP hD hS
set_option maxHeartbeats 8000000 in
set_option maxRecDepth 100000 in
theorem law_see (hC : CallFix p m c cL_law 4 s args wsL_law RL) (hE : EV G s) (hZ : SV sk sv (fun q : Nat => s.heap.size ≤ q) s s.heap) (hX : va_X b L xs s s.heap) (hbl : b < s.heap.size) (hi : i + 6 ≤ L) (hL : L ≤ 384) (Rr : Rel x0 x1 x3 x4 x5 x6 x8 x11 x12 x13 x14 g) (hP : va_P G.1 vwCl (WL G ad ado ad7 x0 x1 x2 x3 x4 x5 x6 x7 x8 x9 x10 x11 x12 x13 x14 g) H) (hD : va_D (fun q : Nat => s.heap.size ≤ q) (WL G ad ado ad7 x0 x1 x2 x3 x4 x5 x6 x7 x8 x9 x10 x11 x12 x13 x14 g)) (hS : va_S (fun q : Nat => s.heap.size ≤ q) s.heap H locs) (hl : lv_has ls 4 [(0, .ref b), (1, .ref (ad 0)), (2, .ref (ad7 0)), (3, .int (nI i))]) (kk : GoOn p l e s m args below meth c G ad ado ad7 ls Q) : W p l e room_1 s m args below meth c H locs 100 2657 Q (F0 m 1347 ls []) := by
  have hA : ∀ q : Nat, s.heap.size ≤ q → (fun q : Nat => s.heap.size ≤ q) q := fun _ h => h
  have hbA : ¬ (fun q : Nat => s.heap.size ≤ q) b := Nat.not_le.mpr hbl
  obtain ⟨hx, hb, hml, hown, hts⟩ := id hC
  have hT : va_K G.1 vwCl (tyL G) s := hE.1
  have hn1 : vp_in (nI i + nI 1) L := by rw [nI_add]; exact vp_in_nI (by omega) (by omega)
  have hn2 : vp_in (nI i + nI 2) L := by rw [nI_add]; exact vp_in_nI (by omega) (by omega)
  have hn3 : vp_in (nI i + nI 3) L := by rw [nI_add]; exact vp_in_nI (by omega) (by omega)
  have hn4 : vp_in (nI i + nI 4) L := by rw [nI_add]; exact vp_in_nI (by omega) (by omega)
  obtain ⟨r, x8', g', e1, e2, Rr'⟩ := op_see Rr (xs (nI i + nI 1).toNatClampNeg) (xs (nI i + nI 2).toNatClampNeg) (xs (nI i + nI 3).toNatClampNeg) (xs (nI i + nI 4).toNatClampNeg)
  refine lv_aload_n hx hb dL_law_1347 rfl (lv_at hl 1 rfl) ?_
  refine lv_aload_n hx hb dL_law_1348 rfl (lv_at hl 0 rfl) ?_
  refine lv_iload_n hx hb dL_law_1349 rfl (lv_at hl 3 rfl) ?_
  refine lv_iconst (v := (nI 1)) hx hb dL_law_1350 (ic_1) ?_
  refine lv_iadd hx hb dL_law_1351 ?_
  refine va_sld hx hb hX hbl hbA hS hn1 dL_law_1352 ?_
  refine lv_aload_n hx hb dL_law_1353 rfl (lv_at hl 0 rfl) ?_
  refine lv_iload_n hx hb dL_law_1354 rfl (lv_at hl 3 rfl) ?_
  refine lv_iconst (v := (nI 2)) hx hb dL_law_1355 (ic_2) ?_
  refine lv_iadd hx hb dL_law_1356 ?_
  refine va_sld hx hb hX hbl hbA hS hn2 dL_law_1357 ?_
  refine lv_aload_n hx hb dL_law_1358 rfl (lv_at hl 0 rfl) ?_
  refine lv_iload_n hx hb dL_law_1359 rfl (lv_at hl 3 rfl) ?_
  refine lv_iconst (v := (nI 3)) hx hb dL_law_1360 (ic_3) ?_
  refine lv_iadd hx hb dL_law_1361 ?_
  refine va_sld hx hb hX hbl hbA hS hn3 dL_law_1362 ?_
  refine lv_aload_n hx hb dL_law_1363 rfl (lv_at hl 0 rfl) ?_
  refine lv_iload_n hx hb dL_law_1364 rfl (lv_at hl 3 rfl) ?_
  refine lv_iconst (v := (nI 4)) hx hb dL_law_1365 (ic_4) ?_
  refine lv_iadd hx hb dL_law_1366 ?_
  refine va_sld hx hb hX hbl hbA hS hn4 dL_law_1367 ?_
  have p1 : List.Perm (WL G ad ado ad7 x0 x1 x2 x3 x4 x5 x6 x7 x8 x9 x10 x11 x12 x13 x14 g) (((wX6 G ad ado x0) ++ ((wX0 G (ado 1) x1) ++ (wX3 G (ado 8) x8))) ++ ((wX0 G (ado 2) x2) ++ ((wX0 G (ado 3) x3) ++ ((wX0 G (ado 4) x4) ++ ((wX4 G (ado 5) x5) ++ ((wX5 G (ado 6) (ado 7 0) x6) ++ ((wX0 G (ado 7) x7) ++ ((wX1 G (ado 9) (ado 10 0) x9) ++ ((wX0 G (ado 10) x10) ++ ((wX2 G (ado 11) x11) ++ ((wX2 G (ado 12) x12) ++ ((wX2 G (ado 13) x13) ++ ((wX2 G (ado 14) x14) ++ (wX7 G ad7 g)))))))))))))) := catw_perm (as := [0, 1, 2, 3, 4, 5, 6, 7, 8, 9, 10, 11, 12, 13, 14, 15]) (is := [0, 1, 8]) (rs := [2, 3, 4, 5, 6, 7, 9, 10, 11, 12, 13, 14, 15]) (PC G ad ado ad7 (M16 x0 x1 x2 x3 x4 x5 x6 x7 x8 x9 x10 x11 x12 x13 x14 g)) (by decide)
  have p2 : List.Perm (WL G ad ado ad7 x0 x1 x2 x3 x4 x5 x6 x7 x8' x9 x10 x11 x12 x13 x14 g) (((wX6 G ad ado x0) ++ ((wX0 G (ado 1) x1) ++ (wX3 G (ado 8) x8'))) ++ ((wX0 G (ado 2) x2) ++ ((wX0 G (ado 3) x3) ++ ((wX0 G (ado 4) x4) ++ ((wX4 G (ado 5) x5) ++ ((wX5 G (ado 6) (ado 7 0) x6) ++ ((wX0 G (ado 7) x7) ++ ((wX1 G (ado 9) (ado 10 0) x9) ++ ((wX0 G (ado 10) x10) ++ ((wX2 G (ado 11) x11) ++ ((wX2 G (ado 12) x12) ++ ((wX2 G (ado 13) x13) ++ ((wX2 G (ado 14) x14) ++ (wX7 G ad7 g)))))))))))))) := catw_perm (as := [0, 1, 2, 3, 4, 5, 6, 7, 8, 9, 10, 11, 12, 13, 14, 15]) (is := [0, 1, 8]) (rs := [2, 3, 4, 5, 6, 7, 9, 10, 11, 12, 13, 14, 15]) (PC G ad ado ad7 (M16 x0 x1 x2 x3 x4 x5 x6 x7 x8' x9 x10 x11 x12 x13 x14 g)) (by decide)
  have hPc : va_P G.1 vwCl ((wX6 G ad ado x0) ++ ((wX0 G (ado 1) x1) ++ (wX3 G (ado 8) x8))) H := va_P_l (va_P_pm p1 hP)
  have hDc : va_D (fun q : Nat => s.heap.size ≤ q) ((wX6 G ad ado x0) ++ ((wX0 G (ado 1) x1) ++ (wX3 G (ado 8) x8))) := va_D_l (va_D_pm p1 hD)
  refine cl_i_pm (Wd := (WL G ad ado ad7 x0 x1 x2 x3 x4 x5 x6 x7 x8 x9 x10 x11 x12 x13 x14 g)) (Wc := ((wX6 G ad ado x0) ++ ((wX0 G (ado 1) x1) ++ (wX3 G (ado 8) x8)))) (W' := ((wX6 G ad ado x0) ++ ((wX0 G (ado 1) x1) ++ (wX3 G (ado 8) x8')))) (W2 := (WL G ad ado ad7 x0 x1 x2 x3 x4 x5 x6 x7 x8' x9 x10 x11 x12 x13 x14 g)) (Wr := ((wX0 G (ado 2) x2) ++ ((wX0 G (ado 3) x3) ++ ((wX0 G (ado 4) x4) ++ ((wX4 G (ado 5) x5) ++ ((wX5 G (ado 6) (ado 7 0) x6) ++ ((wX0 G (ado 7) x7) ++ ((wX1 G (ado 9) (ado 10 0) x9) ++ ((wX0 G (ado 10) x10) ++ ((wX2 G (ado 11) x11) ++ ((wX2 G (ado 12) x12) ++ ((wX2 G (ado 13) x13) ++ ((wX2 G (ado 14) x14) ++ (wX7 G ad7 g)))))))))))))) p1 p2 (va_runV (As := [.int (xs (nI i + nI 1).toNatClampNeg), .int (xs (nI i + nI 2).toNatClampNeg), .int (xs (nI i + nI 3).toNatClampNeg), .int (xs (nI i + nI 4).toNatClampNeg)]) (rest := []) hC (c_X6_see l G ad ado x0 x1 x8 (xs (nI i + nI 1).toNatClampNeg) (xs (nI i + nI 2).toNatClampNeg) (xs (nI i + nI 3).toNatClampNeg) (xs (nI i + nI 4).toNatClampNeg) r x8' e1 _) (cwV 4 hts gL_law_X6_see rfl rfl rfl (by decide +kernel) ⟨Nat.le_of_ble_eq_true rfl, Nat.le_of_ble_eq_true rfl⟩) ⟨Pc0_blind, va_recv hT hPc (q0 := 0) (ci := 6) rfl rfl, fun U hU hW => Pc0_at (Wd := ((wX6 G ad ado x0) ++ ((wX0 G (ado 1) x1) ++ (wX3 G (ado 8) x8)))) hE hPc hDc hU hW⟩ rfl rfl hl.1 rfl (lv_room (Nat.le_of_ble_eq_true rfl)) dL_law_1368 ⟨Nat.le_of_ble_eq_true rfl, Nat.le_of_ble_eq_true rfl⟩) hS hA hP hD (fun H locs hP hD hS => ?_)
  clear p1 p2 hPc hDc
  refine lv_aload_n hx hb dL_law_1371 rfl (lv_at hl 2 rfl) ?_
  refine lv_aload_n hx hb dL_law_1372 rfl (lv_at hl 0 rfl) ?_
  refine lv_iload_n hx hb dL_law_1373 rfl (lv_at hl 3 rfl) ?_
  refine lv_iconst (v := (nI 1)) hx hb dL_law_1374 (ic_1) ?_
  refine lv_iadd hx hb dL_law_1375 ?_
  refine va_sld hx hb hX hbl hbA hS hn1 dL_law_1376 ?_
  refine lv_aload_n hx hb dL_law_1377 rfl (lv_at hl 0 rfl) ?_
  refine lv_iload_n hx hb dL_law_1378 rfl (lv_at hl 3 rfl) ?_
  refine lv_iconst (v := (nI 2)) hx hb dL_law_1379 (ic_2) ?_
  refine lv_iadd hx hb dL_law_1380 ?_
  refine va_sld hx hb hX hbl hbA hS hn2 dL_law_1381 ?_
  refine lv_aload_n hx hb dL_law_1382 rfl (lv_at hl 0 rfl) ?_
  refine lv_iload_n hx hb dL_law_1383 rfl (lv_at hl 3 rfl) ?_
  refine lv_iconst (v := (nI 3)) hx hb dL_law_1384 (ic_3) ?_
  refine lv_iadd hx hb dL_law_1385 ?_
  refine va_sld hx hb hX hbl hbA hS hn3 dL_law_1386 ?_
  refine lv_aload_n hx hb dL_law_1387 rfl (lv_at hl 0 rfl) ?_
  refine lv_iload_n hx hb dL_law_1388 rfl (lv_at hl 3 rfl) ?_
  refine lv_iconst (v := (nI 4)) hx hb dL_law_1389 (ic_4) ?_
  refine lv_iadd hx hb dL_law_1390 ?_
  refine va_sld hx hb hX hbl hbA hS hn4 dL_law_1391 ?_
  have p1 : List.Perm (WL G ad ado ad7 x0 x1 x2 x3 x4 x5 x6 x7 x8' x9 x10 x11 x12 x13 x14 g) ((wX7 G ad7 g) ++ ((wX6 G ad ado x0) ++ ((wX0 G (ado 1) x1) ++ ((wX0 G (ado 2) x2) ++ ((wX0 G (ado 3) x3) ++ ((wX0 G (ado 4) x4) ++ ((wX4 G (ado 5) x5) ++ ((wX5 G (ado 6) (ado 7 0) x6) ++ ((wX0 G (ado 7) x7) ++ ((wX3 G (ado 8) x8') ++ ((wX1 G (ado 9) (ado 10 0) x9) ++ ((wX0 G (ado 10) x10) ++ ((wX2 G (ado 11) x11) ++ ((wX2 G (ado 12) x12) ++ ((wX2 G (ado 13) x13) ++ (wX2 G (ado 14) x14)))))))))))))))) := catw_perm (as := [0, 1, 2, 3, 4, 5, 6, 7, 8, 9, 10, 11, 12, 13, 14, 15]) (is := [15]) (rs := [0, 1, 2, 3, 4, 5, 6, 7, 8, 9, 10, 11, 12, 13, 14]) (PC G ad ado ad7 (M16 x0 x1 x2 x3 x4 x5 x6 x7 x8' x9 x10 x11 x12 x13 x14 g)) (by decide)
  have p2 : List.Perm (WL G ad ado ad7 x0 x1 x2 x3 x4 x5 x6 x7 x8' x9 x10 x11 x12 x13 x14 g') ((wX7 G ad7 g') ++ ((wX6 G ad ado x0) ++ ((wX0 G (ado 1) x1) ++ ((wX0 G (ado 2) x2) ++ ((wX0 G (ado 3) x3) ++ ((wX0 G (ado 4) x4) ++ ((wX4 G (ado 5) x5) ++ ((wX5 G (ado 6) (ado 7 0) x6) ++ ((wX0 G (ado 7) x7) ++ ((wX3 G (ado 8) x8') ++ ((wX1 G (ado 9) (ado 10 0) x9) ++ ((wX0 G (ado 10) x10) ++ ((wX2 G (ado 11) x11) ++ ((wX2 G (ado 12) x12) ++ ((wX2 G (ado 13) x13) ++ (wX2 G (ado 14) x14)))))))))))))))) := catw_perm (as := [0, 1, 2, 3, 4, 5, 6, 7, 8, 9, 10, 11, 12, 13, 14, 15]) (is := [15]) (rs := [0, 1, 2, 3, 4, 5, 6, 7, 8, 9, 10, 11, 12, 13, 14]) (PC G ad ado ad7 (M16 x0 x1 x2 x3 x4 x5 x6 x7 x8' x9 x10 x11 x12 x13 x14 g')) (by decide)
  have hPc : va_P G.1 vwCl (wX7 G ad7 g) H := va_P_l (va_P_pm p1 hP)
  have hDc : va_D (fun q : Nat => s.heap.size ≤ q) (wX7 G ad7 g) := va_D_l (va_D_pm p1 hD)
  refine cl_i_pm (Wd := (WL G ad ado ad7 x0 x1 x2 x3 x4 x5 x6 x7 x8' x9 x10 x11 x12 x13 x14 g)) (Wc := (wX7 G ad7 g)) (W' := (wX7 G ad7 g')) (W2 := (WL G ad ado ad7 x0 x1 x2 x3 x4 x5 x6 x7 x8' x9 x10 x11 x12 x13 x14 g')) (Wr := ((wX6 G ad ado x0) ++ ((wX0 G (ado 1) x1) ++ ((wX0 G (ado 2) x2) ++ ((wX0 G (ado 3) x3) ++ ((wX0 G (ado 4) x4) ++ ((wX4 G (ado 5) x5) ++ ((wX5 G (ado 6) (ado 7 0) x6) ++ ((wX0 G (ado 7) x7) ++ ((wX3 G (ado 8) x8') ++ ((wX1 G (ado 9) (ado 10 0) x9) ++ ((wX0 G (ado 10) x10) ++ ((wX2 G (ado 11) x11) ++ ((wX2 G (ado 12) x12) ++ ((wX2 G (ado 13) x13) ++ (wX2 G (ado 14) x14)))))))))))))))) p1 p2 (va_runV (As := [.int (xs (nI i + nI 1).toNatClampNeg), .int (xs (nI i + nI 2).toNatClampNeg), .int (xs (nI i + nI 3).toNatClampNeg), .int (xs (nI i + nI 4).toNatClampNeg)]) (rest := [.int r]) hC (c_X7_see l G ad7 g (xs (nI i + nI 1).toNatClampNeg) (xs (nI i + nI 2).toNatClampNeg) (xs (nI i + nI 3).toNatClampNeg) (xs (nI i + nI 4).toNatClampNeg) r g' e2 _) (cwV 4 hts gL_law_X7_see rfl rfl rfl (by decide +kernel) ⟨Nat.le_of_ble_eq_true rfl, Nat.le_of_ble_eq_true rfl⟩) ⟨Pc0_blind, va_recv hT hPc (q0 := 0) (ci := 7) rfl rfl, fun U hU hW => Pc0_at (Wd := (wX7 G ad7 g)) hE hPc hDc hU hW⟩ rfl rfl hl.1 rfl (lv_room (Nat.le_of_ble_eq_true rfl)) dL_law_1392 ⟨Nat.le_of_ble_eq_true rfl, Nat.le_of_ble_eq_true rfl⟩) hS hA hP hD (fun H locs hP hD hS => ?_)
  clear p1 p2 hPc hDc
  refine lv_icmp_eq (tgt := 1766) hx hb dL_law_1395 (by decide) (fun _ => ?_) (fun h => absurd rfl h)
  exact kk x0 x1 x2 x3 x4 x5 x6 x7 x8' x9 x10 x11 x12 x13 x14 g' H locs Rr' hP hD hS
set_option maxHeartbeats 8000000 in
set_option maxRecDepth 100000 in
theorem law_forget (hC : CallFix p m c cL_law 4 s args wsL_law RL) (hE : EV G s) (hZ : SV sk sv (fun q : Nat => s.heap.size ≤ q) s s.heap) (hX : va_X b L xs s s.heap) (hbl : b < s.heap.size) (hi : i + 6 ≤ L) (hL : L ≤ 384) (Rr : Rel x0 x1 x3 x4 x5 x6 x8 x11 x12 x13 x14 g) (hP : va_P G.1 vwCl (WL G ad ado ad7 x0 x1 x2 x3 x4 x5 x6 x7 x8 x9 x10 x11 x12 x13 x14 g) H) (hD : va_D (fun q : Nat => s.heap.size ≤ q) (WL G ad ado ad7 x0 x1 x2 x3 x4 x5 x6 x7 x8 x9 x10 x11 x12 x13 x14 g)) (hS : va_S (fun q : Nat => s.heap.size ≤ q) s.heap H locs) (hl : lv_has ls 4 [(0, .ref b), (1, .ref (ad 0)), (2, .ref (ad7 0)), (3, .int (nI i))]) (kk : GoOn p l e s m args below meth c G ad ado ad7 ls Q) : W p l e room_1 s m args below meth c H locs 100 2657 Q (F0 m 1400 ls []) := by
  have hA : ∀ q : Nat, s.heap.size ≤ q → (fun q : Nat => s.heap.size ≤ q) q := fun _ h => h
  have hbA : ¬ (fun q : Nat => s.heap.size ≤ q) b := Nat.not_le.mpr hbl
  obtain ⟨hx, hb, hml, hown, hts⟩ := id hC
  have hT : va_K G.1 vwCl (tyL G) s := hE.1
  have hn1 : vp_in (nI i + nI 1) L := by rw [nI_add]; exact vp_in_nI (by omega) (by omega)
  obtain ⟨r, x8', g', e1, e2, Rr'⟩ := op_forget Rr (xs (nI i + nI 1).toNatClampNeg)
  refine lv_aload_n hx hb dL_law_1400 rfl (lv_at hl 1 rfl) ?_
  refine lv_aload_n hx hb dL_law_1401 rfl (lv_at hl 0 rfl) ?_
  refine lv_iload_n hx hb dL_law_1402 rfl (lv_at hl 3 rfl) ?_
  refine lv_iconst (v := (nI 1)) hx hb dL_law_1403 (ic_1) ?_
  refine lv_iadd hx hb dL_law_1404 ?_
  refine va_sld hx hb hX hbl hbA hS hn1 dL_law_1405 ?_
  have p1 : List.Perm (WL G ad ado ad7 x0 x1 x2 x3 x4 x5 x6 x7 x8 x9 x10 x11 x12 x13 x14 g) (((wX6 G ad ado x0) ++ (wX3 G (ado 8) x8)) ++ ((wX0 G (ado 1) x1) ++ ((wX0 G (ado 2) x2) ++ ((wX0 G (ado 3) x3) ++ ((wX0 G (ado 4) x4) ++ ((wX4 G (ado 5) x5) ++ ((wX5 G (ado 6) (ado 7 0) x6) ++ ((wX0 G (ado 7) x7) ++ ((wX1 G (ado 9) (ado 10 0) x9) ++ ((wX0 G (ado 10) x10) ++ ((wX2 G (ado 11) x11) ++ ((wX2 G (ado 12) x12) ++ ((wX2 G (ado 13) x13) ++ ((wX2 G (ado 14) x14) ++ (wX7 G ad7 g))))))))))))))) := catw_perm (as := [0, 1, 2, 3, 4, 5, 6, 7, 8, 9, 10, 11, 12, 13, 14, 15]) (is := [0, 8]) (rs := [1, 2, 3, 4, 5, 6, 7, 9, 10, 11, 12, 13, 14, 15]) (PC G ad ado ad7 (M16 x0 x1 x2 x3 x4 x5 x6 x7 x8 x9 x10 x11 x12 x13 x14 g)) (by decide)
  have p2 : List.Perm (WL G ad ado ad7 x0 x1 x2 x3 x4 x5 x6 x7 x8' x9 x10 x11 x12 x13 x14 g) (((wX6 G ad ado x0) ++ (wX3 G (ado 8) x8')) ++ ((wX0 G (ado 1) x1) ++ ((wX0 G (ado 2) x2) ++ ((wX0 G (ado 3) x3) ++ ((wX0 G (ado 4) x4) ++ ((wX4 G (ado 5) x5) ++ ((wX5 G (ado 6) (ado 7 0) x6) ++ ((wX0 G (ado 7) x7) ++ ((wX1 G (ado 9) (ado 10 0) x9) ++ ((wX0 G (ado 10) x10) ++ ((wX2 G (ado 11) x11) ++ ((wX2 G (ado 12) x12) ++ ((wX2 G (ado 13) x13) ++ ((wX2 G (ado 14) x14) ++ (wX7 G ad7 g))))))))))))))) := catw_perm (as := [0, 1, 2, 3, 4, 5, 6, 7, 8, 9, 10, 11, 12, 13, 14, 15]) (is := [0, 8]) (rs := [1, 2, 3, 4, 5, 6, 7, 9, 10, 11, 12, 13, 14, 15]) (PC G ad ado ad7 (M16 x0 x1 x2 x3 x4 x5 x6 x7 x8' x9 x10 x11 x12 x13 x14 g)) (by decide)
  have hPc : va_P G.1 vwCl ((wX6 G ad ado x0) ++ (wX3 G (ado 8) x8)) H := va_P_l (va_P_pm p1 hP)
  have hDc : va_D (fun q : Nat => s.heap.size ≤ q) ((wX6 G ad ado x0) ++ (wX3 G (ado 8) x8)) := va_D_l (va_D_pm p1 hD)
  refine cl_i_pm (Wd := (WL G ad ado ad7 x0 x1 x2 x3 x4 x5 x6 x7 x8 x9 x10 x11 x12 x13 x14 g)) (Wc := ((wX6 G ad ado x0) ++ (wX3 G (ado 8) x8))) (W' := ((wX6 G ad ado x0) ++ (wX3 G (ado 8) x8'))) (W2 := (WL G ad ado ad7 x0 x1 x2 x3 x4 x5 x6 x7 x8' x9 x10 x11 x12 x13 x14 g)) (Wr := ((wX0 G (ado 1) x1) ++ ((wX0 G (ado 2) x2) ++ ((wX0 G (ado 3) x3) ++ ((wX0 G (ado 4) x4) ++ ((wX4 G (ado 5) x5) ++ ((wX5 G (ado 6) (ado 7 0) x6) ++ ((wX0 G (ado 7) x7) ++ ((wX1 G (ado 9) (ado 10 0) x9) ++ ((wX0 G (ado 10) x10) ++ ((wX2 G (ado 11) x11) ++ ((wX2 G (ado 12) x12) ++ ((wX2 G (ado 13) x13) ++ ((wX2 G (ado 14) x14) ++ (wX7 G ad7 g))))))))))))))) p1 p2 (va_runV (As := [.int (xs (nI i + nI 1).toNatClampNeg)]) (rest := []) hC (c_X6_forget l G ad ado x0 x8 (xs (nI i + nI 1).toNatClampNeg) r x8' e1 _) (cwV 1 hts gL_law_X6_forget rfl rfl rfl (by decide +kernel) ⟨Nat.le_of_ble_eq_true rfl, Nat.le_of_ble_eq_true rfl⟩) ⟨Pc0_blind, va_recv hT hPc (q0 := 0) (ci := 6) rfl rfl, fun U hU hW => Pc0_at (Wd := ((wX6 G ad ado x0) ++ (wX3 G (ado 8) x8))) hE hPc hDc hU hW⟩ rfl rfl hl.1 rfl (lv_room (Nat.le_of_ble_eq_true rfl)) dL_law_1406 ⟨Nat.le_of_ble_eq_true rfl, Nat.le_of_ble_eq_true rfl⟩) hS hA hP hD (fun H locs hP hD hS => ?_)
  clear p1 p2 hPc hDc
  refine lv_aload_n hx hb dL_law_1409 rfl (lv_at hl 2 rfl) ?_
  refine lv_aload_n hx hb dL_law_1410 rfl (lv_at hl 0 rfl) ?_
  refine lv_iload_n hx hb dL_law_1411 rfl (lv_at hl 3 rfl) ?_
  refine lv_iconst (v := (nI 1)) hx hb dL_law_1412 (ic_1) ?_
  refine lv_iadd hx hb dL_law_1413 ?_
  refine va_sld hx hb hX hbl hbA hS hn1 dL_law_1414 ?_
  have p1 : List.Perm (WL G ad ado ad7 x0 x1 x2 x3 x4 x5 x6 x7 x8' x9 x10 x11 x12 x13 x14 g) ((wX7 G ad7 g) ++ ((wX6 G ad ado x0) ++ ((wX0 G (ado 1) x1) ++ ((wX0 G (ado 2) x2) ++ ((wX0 G (ado 3) x3) ++ ((wX0 G (ado 4) x4) ++ ((wX4 G (ado 5) x5) ++ ((wX5 G (ado 6) (ado 7 0) x6) ++ ((wX0 G (ado 7) x7) ++ ((wX3 G (ado 8) x8') ++ ((wX1 G (ado 9) (ado 10 0) x9) ++ ((wX0 G (ado 10) x10) ++ ((wX2 G (ado 11) x11) ++ ((wX2 G (ado 12) x12) ++ ((wX2 G (ado 13) x13) ++ (wX2 G (ado 14) x14)))))))))))))))) := catw_perm (as := [0, 1, 2, 3, 4, 5, 6, 7, 8, 9, 10, 11, 12, 13, 14, 15]) (is := [15]) (rs := [0, 1, 2, 3, 4, 5, 6, 7, 8, 9, 10, 11, 12, 13, 14]) (PC G ad ado ad7 (M16 x0 x1 x2 x3 x4 x5 x6 x7 x8' x9 x10 x11 x12 x13 x14 g)) (by decide)
  have p2 : List.Perm (WL G ad ado ad7 x0 x1 x2 x3 x4 x5 x6 x7 x8' x9 x10 x11 x12 x13 x14 g') ((wX7 G ad7 g') ++ ((wX6 G ad ado x0) ++ ((wX0 G (ado 1) x1) ++ ((wX0 G (ado 2) x2) ++ ((wX0 G (ado 3) x3) ++ ((wX0 G (ado 4) x4) ++ ((wX4 G (ado 5) x5) ++ ((wX5 G (ado 6) (ado 7 0) x6) ++ ((wX0 G (ado 7) x7) ++ ((wX3 G (ado 8) x8') ++ ((wX1 G (ado 9) (ado 10 0) x9) ++ ((wX0 G (ado 10) x10) ++ ((wX2 G (ado 11) x11) ++ ((wX2 G (ado 12) x12) ++ ((wX2 G (ado 13) x13) ++ (wX2 G (ado 14) x14)))))))))))))))) := catw_perm (as := [0, 1, 2, 3, 4, 5, 6, 7, 8, 9, 10, 11, 12, 13, 14, 15]) (is := [15]) (rs := [0, 1, 2, 3, 4, 5, 6, 7, 8, 9, 10, 11, 12, 13, 14]) (PC G ad ado ad7 (M16 x0 x1 x2 x3 x4 x5 x6 x7 x8' x9 x10 x11 x12 x13 x14 g')) (by decide)
  have hPc : va_P G.1 vwCl (wX7 G ad7 g) H := va_P_l (va_P_pm p1 hP)
  have hDc : va_D (fun q : Nat => s.heap.size ≤ q) (wX7 G ad7 g) := va_D_l (va_D_pm p1 hD)
  refine cl_i_pm (Wd := (WL G ad ado ad7 x0 x1 x2 x3 x4 x5 x6 x7 x8' x9 x10 x11 x12 x13 x14 g)) (Wc := (wX7 G ad7 g)) (W' := (wX7 G ad7 g')) (W2 := (WL G ad ado ad7 x0 x1 x2 x3 x4 x5 x6 x7 x8' x9 x10 x11 x12 x13 x14 g')) (Wr := ((wX6 G ad ado x0) ++ ((wX0 G (ado 1) x1) ++ ((wX0 G (ado 2) x2) ++ ((wX0 G (ado 3) x3) ++ ((wX0 G (ado 4) x4) ++ ((wX4 G (ado 5) x5) ++ ((wX5 G (ado 6) (ado 7 0) x6) ++ ((wX0 G (ado 7) x7) ++ ((wX3 G (ado 8) x8') ++ ((wX1 G (ado 9) (ado 10 0) x9) ++ ((wX0 G (ado 10) x10) ++ ((wX2 G (ado 11) x11) ++ ((wX2 G (ado 12) x12) ++ ((wX2 G (ado 13) x13) ++ (wX2 G (ado 14) x14)))))))))))))))) p1 p2 (va_runV (As := [.int (xs (nI i + nI 1).toNatClampNeg)]) (rest := [.int r]) hC (c_X7_forget l G ad7 g (xs (nI i + nI 1).toNatClampNeg) r g' e2 _) (cwV 1 hts gL_law_X7_forget rfl rfl rfl (by decide +kernel) ⟨Nat.le_of_ble_eq_true rfl, Nat.le_of_ble_eq_true rfl⟩) ⟨Pc0_blind, va_recv hT hPc (q0 := 0) (ci := 7) rfl rfl, fun U hU hW => Pc0_at (Wd := (wX7 G ad7 g)) hE hPc hDc hU hW⟩ rfl rfl hl.1 rfl (lv_room (Nat.le_of_ble_eq_true rfl)) dL_law_1415 ⟨Nat.le_of_ble_eq_true rfl, Nat.le_of_ble_eq_true rfl⟩) hS hA hP hD (fun H locs hP hD hS => ?_)
  clear p1 p2 hPc hDc
  refine lv_icmp_eq (tgt := 1766) hx hb dL_law_1418 (by decide) (fun _ => ?_) (fun h => absurd rfl h)
  exact kk x0 x1 x2 x3 x4 x5 x6 x7 x8' x9 x10 x11 x12 x13 x14 g' H locs Rr' hP hD hS
set_option maxHeartbeats 8000000 in
set_option maxRecDepth 100000 in
theorem law_kinds (hC : CallFix p m c cL_law 4 s args wsL_law RL) (hE : EV G s) (hZ : SV sk sv (fun q : Nat => s.heap.size ≤ q) s s.heap) (hX : va_X b L xs s s.heap) (hbl : b < s.heap.size) (hi : i + 6 ≤ L) (hL : L ≤ 384) (Rr : Rel x0 x1 x3 x4 x5 x6 x8 x11 x12 x13 x14 g) (hP : va_P G.1 vwCl (WL G ad ado ad7 x0 x1 x2 x3 x4 x5 x6 x7 x8 x9 x10 x11 x12 x13 x14 g) H) (hD : va_D (fun q : Nat => s.heap.size ≤ q) (WL G ad ado ad7 x0 x1 x2 x3 x4 x5 x6 x7 x8 x9 x10 x11 x12 x13 x14 g)) (hS : va_S (fun q : Nat => s.heap.size ≤ q) s.heap H locs) (hl : lv_has ls 4 [(0, .ref b), (1, .ref (ad 0)), (2, .ref (ad7 0)), (3, .int (nI i))]) (kk : GoOn p l e s m args below meth c G ad ado ad7 ls Q) : W p l e room_1 s m args below meth c H locs 100 2657 Q (F0 m 1423 ls []) := by
  have hA : ∀ q : Nat, s.heap.size ≤ q → (fun q : Nat => s.heap.size ≤ q) q := fun _ h => h
  have hbA : ¬ (fun q : Nat => s.heap.size ≤ q) b := Nat.not_le.mpr hbl
  obtain ⟨hx, hb, hml, hown, hts⟩ := id hC
  have hT : va_K G.1 vwCl (tyL G) s := hE.1
  have hn1 : vp_in (nI i + nI 1) L := by rw [nI_add]; exact vp_in_nI (by omega) (by omega)
  obtain ⟨r, x2', g', e1, e2, Rr'⟩ := op_kinds Rr x2 (xs (nI i + nI 1).toNatClampNeg)
  refine lv_aload_n hx hb dL_law_1423 rfl (lv_at hl 1 rfl) ?_
  refine lv_aload_n hx hb dL_law_1424 rfl (lv_at hl 0 rfl) ?_
  refine lv_iload_n hx hb dL_law_1425 rfl (lv_at hl 3 rfl) ?_
  refine lv_iconst (v := (nI 1)) hx hb dL_law_1426 (ic_1) ?_
  refine lv_iadd hx hb dL_law_1427 ?_
  refine va_sld hx hb hX hbl hbA hS hn1 dL_law_1428 ?_
  have p1 : List.Perm (WL G ad ado ad7 x0 x1 x2 x3 x4 x5 x6 x7 x8 x9 x10 x11 x12 x13 x14 g) (((wX6 G ad ado x0) ++ ((wX0 G (ado 1) x1) ++ ((wX0 G (ado 2) x2) ++ (wX3 G (ado 8) x8)))) ++ ((wX0 G (ado 3) x3) ++ ((wX0 G (ado 4) x4) ++ ((wX4 G (ado 5) x5) ++ ((wX5 G (ado 6) (ado 7 0) x6) ++ ((wX0 G (ado 7) x7) ++ ((wX1 G (ado 9) (ado 10 0) x9) ++ ((wX0 G (ado 10) x10) ++ ((wX2 G (ado 11) x11) ++ ((wX2 G (ado 12) x12) ++ ((wX2 G (ado 13) x13) ++ ((wX2 G (ado 14) x14) ++ (wX7 G ad7 g))))))))))))) := catw_perm (as := [0, 1, 2, 3, 4, 5, 6, 7, 8, 9, 10, 11, 12, 13, 14, 15]) (is := [0, 1, 2, 8]) (rs := [3, 4, 5, 6, 7, 9, 10, 11, 12, 13, 14, 15]) (PC G ad ado ad7 (M16 x0 x1 x2 x3 x4 x5 x6 x7 x8 x9 x10 x11 x12 x13 x14 g)) (by decide)
  have p2 : List.Perm (WL G ad ado ad7 x0 x1 x2' x3 x4 x5 x6 x7 x8 x9 x10 x11 x12 x13 x14 g) (((wX6 G ad ado x0) ++ ((wX0 G (ado 1) x1) ++ ((wX0 G (ado 2) x2') ++ (wX3 G (ado 8) x8)))) ++ ((wX0 G (ado 3) x3) ++ ((wX0 G (ado 4) x4) ++ ((wX4 G (ado 5) x5) ++ ((wX5 G (ado 6) (ado 7 0) x6) ++ ((wX0 G (ado 7) x7) ++ ((wX1 G (ado 9) (ado 10 0) x9) ++ ((wX0 G (ado 10) x10) ++ ((wX2 G (ado 11) x11) ++ ((wX2 G (ado 12) x12) ++ ((wX2 G (ado 13) x13) ++ ((wX2 G (ado 14) x14) ++ (wX7 G ad7 g))))))))))))) := catw_perm (as := [0, 1, 2, 3, 4, 5, 6, 7, 8, 9, 10, 11, 12, 13, 14, 15]) (is := [0, 1, 2, 8]) (rs := [3, 4, 5, 6, 7, 9, 10, 11, 12, 13, 14, 15]) (PC G ad ado ad7 (M16 x0 x1 x2' x3 x4 x5 x6 x7 x8 x9 x10 x11 x12 x13 x14 g)) (by decide)
  have hPc : va_P G.1 vwCl ((wX6 G ad ado x0) ++ ((wX0 G (ado 1) x1) ++ ((wX0 G (ado 2) x2) ++ (wX3 G (ado 8) x8)))) H := va_P_l (va_P_pm p1 hP)
  have hDc : va_D (fun q : Nat => s.heap.size ≤ q) ((wX6 G ad ado x0) ++ ((wX0 G (ado 1) x1) ++ ((wX0 G (ado 2) x2) ++ (wX3 G (ado 8) x8)))) := va_D_l (va_D_pm p1 hD)
  refine cl_i_pm (Wd := (WL G ad ado ad7 x0 x1 x2 x3 x4 x5 x6 x7 x8 x9 x10 x11 x12 x13 x14 g)) (Wc := ((wX6 G ad ado x0) ++ ((wX0 G (ado 1) x1) ++ ((wX0 G (ado 2) x2) ++ (wX3 G (ado 8) x8))))) (W' := ((wX6 G ad ado x0) ++ ((wX0 G (ado 1) x1) ++ ((wX0 G (ado 2) x2') ++ (wX3 G (ado 8) x8))))) (W2 := (WL G ad ado ad7 x0 x1 x2' x3 x4 x5 x6 x7 x8 x9 x10 x11 x12 x13 x14 g)) (Wr := ((wX0 G (ado 3) x3) ++ ((wX0 G (ado 4) x4) ++ ((wX4 G (ado 5) x5) ++ ((wX5 G (ado 6) (ado 7 0) x6) ++ ((wX0 G (ado 7) x7) ++ ((wX1 G (ado 9) (ado 10 0) x9) ++ ((wX0 G (ado 10) x10) ++ ((wX2 G (ado 11) x11) ++ ((wX2 G (ado 12) x12) ++ ((wX2 G (ado 13) x13) ++ ((wX2 G (ado 14) x14) ++ (wX7 G ad7 g))))))))))))) p1 p2 (va_runV (As := [.int (xs (nI i + nI 1).toNatClampNeg)]) (rest := []) hC (c_X6_kinds l G ad ado x0 x1 x2 x8 (xs (nI i + nI 1).toNatClampNeg) r x2' e1 _) (cwV 1 hts gL_law_X6_kinds rfl rfl rfl (by decide +kernel) ⟨Nat.le_of_ble_eq_true rfl, Nat.le_of_ble_eq_true rfl⟩) ⟨Pc0_blind, va_recv hT hPc (q0 := 0) (ci := 6) rfl rfl, fun U hU hW => Pc0_at (Wd := ((wX6 G ad ado x0) ++ ((wX0 G (ado 1) x1) ++ ((wX0 G (ado 2) x2) ++ (wX3 G (ado 8) x8))))) hE hPc hDc hU hW⟩ rfl rfl hl.1 rfl (lv_room (Nat.le_of_ble_eq_true rfl)) dL_law_1429 ⟨Nat.le_of_ble_eq_true rfl, Nat.le_of_ble_eq_true rfl⟩) hS hA hP hD (fun H locs hP hD hS => ?_)
  clear p1 p2 hPc hDc
  refine lv_aload_n hx hb dL_law_1432 rfl (lv_at hl 2 rfl) ?_
  refine lv_aload_n hx hb dL_law_1433 rfl (lv_at hl 0 rfl) ?_
  refine lv_iload_n hx hb dL_law_1434 rfl (lv_at hl 3 rfl) ?_
  refine lv_iconst (v := (nI 1)) hx hb dL_law_1435 (ic_1) ?_
  refine lv_iadd hx hb dL_law_1436 ?_
  refine va_sld hx hb hX hbl hbA hS hn1 dL_law_1437 ?_
  have p1 : List.Perm (WL G ad ado ad7 x0 x1 x2' x3 x4 x5 x6 x7 x8 x9 x10 x11 x12 x13 x14 g) ((wX7 G ad7 g) ++ ((wX6 G ad ado x0) ++ ((wX0 G (ado 1) x1) ++ ((wX0 G (ado 2) x2') ++ ((wX0 G (ado 3) x3) ++ ((wX0 G (ado 4) x4) ++ ((wX4 G (ado 5) x5) ++ ((wX5 G (ado 6) (ado 7 0) x6) ++ ((wX0 G (ado 7) x7) ++ ((wX3 G (ado 8) x8) ++ ((wX1 G (ado 9) (ado 10 0) x9) ++ ((wX0 G (ado 10) x10) ++ ((wX2 G (ado 11) x11) ++ ((wX2 G (ado 12) x12) ++ ((wX2 G (ado 13) x13) ++ (wX2 G (ado 14) x14)))))))))))))))) := catw_perm (as := [0, 1, 2, 3, 4, 5, 6, 7, 8, 9, 10, 11, 12, 13, 14, 15]) (is := [15]) (rs := [0, 1, 2, 3, 4, 5, 6, 7, 8, 9, 10, 11, 12, 13, 14]) (PC G ad ado ad7 (M16 x0 x1 x2' x3 x4 x5 x6 x7 x8 x9 x10 x11 x12 x13 x14 g)) (by decide)
  have p2 : List.Perm (WL G ad ado ad7 x0 x1 x2' x3 x4 x5 x6 x7 x8 x9 x10 x11 x12 x13 x14 g') ((wX7 G ad7 g') ++ ((wX6 G ad ado x0) ++ ((wX0 G (ado 1) x1) ++ ((wX0 G (ado 2) x2') ++ ((wX0 G (ado 3) x3) ++ ((wX0 G (ado 4) x4) ++ ((wX4 G (ado 5) x5) ++ ((wX5 G (ado 6) (ado 7 0) x6) ++ ((wX0 G (ado 7) x7) ++ ((wX3 G (ado 8) x8) ++ ((wX1 G (ado 9) (ado 10 0) x9) ++ ((wX0 G (ado 10) x10) ++ ((wX2 G (ado 11) x11) ++ ((wX2 G (ado 12) x12) ++ ((wX2 G (ado 13) x13) ++ (wX2 G (ado 14) x14)))))))))))))))) := catw_perm (as := [0, 1, 2, 3, 4, 5, 6, 7, 8, 9, 10, 11, 12, 13, 14, 15]) (is := [15]) (rs := [0, 1, 2, 3, 4, 5, 6, 7, 8, 9, 10, 11, 12, 13, 14]) (PC G ad ado ad7 (M16 x0 x1 x2' x3 x4 x5 x6 x7 x8 x9 x10 x11 x12 x13 x14 g')) (by decide)
  have hPc : va_P G.1 vwCl (wX7 G ad7 g) H := va_P_l (va_P_pm p1 hP)
  have hDc : va_D (fun q : Nat => s.heap.size ≤ q) (wX7 G ad7 g) := va_D_l (va_D_pm p1 hD)
  refine cl_i_pm (Wd := (WL G ad ado ad7 x0 x1 x2' x3 x4 x5 x6 x7 x8 x9 x10 x11 x12 x13 x14 g)) (Wc := (wX7 G ad7 g)) (W' := (wX7 G ad7 g')) (W2 := (WL G ad ado ad7 x0 x1 x2' x3 x4 x5 x6 x7 x8 x9 x10 x11 x12 x13 x14 g')) (Wr := ((wX6 G ad ado x0) ++ ((wX0 G (ado 1) x1) ++ ((wX0 G (ado 2) x2') ++ ((wX0 G (ado 3) x3) ++ ((wX0 G (ado 4) x4) ++ ((wX4 G (ado 5) x5) ++ ((wX5 G (ado 6) (ado 7 0) x6) ++ ((wX0 G (ado 7) x7) ++ ((wX3 G (ado 8) x8) ++ ((wX1 G (ado 9) (ado 10 0) x9) ++ ((wX0 G (ado 10) x10) ++ ((wX2 G (ado 11) x11) ++ ((wX2 G (ado 12) x12) ++ ((wX2 G (ado 13) x13) ++ (wX2 G (ado 14) x14)))))))))))))))) p1 p2 (va_runV (As := [.int (xs (nI i + nI 1).toNatClampNeg)]) (rest := [.int r]) hC (c_X7_kinds l G ad7 g (xs (nI i + nI 1).toNatClampNeg) r g' e2 _) (cwV 1 hts gL_law_X7_kinds rfl rfl rfl (by decide +kernel) ⟨Nat.le_of_ble_eq_true rfl, Nat.le_of_ble_eq_true rfl⟩) ⟨Pc0_blind, va_recv hT hPc (q0 := 0) (ci := 7) rfl rfl, fun U hU hW => Pc0_at (Wd := (wX7 G ad7 g)) hE hPc hDc hU hW⟩ rfl rfl hl.1 rfl (lv_room (Nat.le_of_ble_eq_true rfl)) dL_law_1438 ⟨Nat.le_of_ble_eq_true rfl, Nat.le_of_ble_eq_true rfl⟩) hS hA hP hD (fun H locs hP hD hS => ?_)
  clear p1 p2 hPc hDc
  refine lv_icmp_eq (tgt := 1766) hx hb dL_law_1441 (by decide) (fun _ => ?_) (fun h => absurd rfl h)
  exact kk x0 x1 x2' x3 x4 x5 x6 x7 x8 x9 x10 x11 x12 x13 x14 g' H locs Rr' hP hD hS
end LAWC

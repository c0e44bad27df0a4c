noncomputable def p_X7_in (x0 : Int64) (x2 : Int64) (x4 : Int64) : Option (Int32) :=
  if (lg_cmp x0 x2) < 0 then
    (some (nI 0))
  else
    (if 0 < (lg_cmp x0 x4) then
       (some (nI 0))
     else
       (some (nI 1)))
set_option maxHeartbeats 4000000 in
set_option maxRecDepth 100000 in
theorem c_X7_in (l : Launch) (G : Gt)  (x0 : Int64) (x2 : Int64) (x4 : Int64) (r : Int32) (hf : p_X7_in x0 x2 x4 = some r) (sz : Nat) : Met l yX7_in wsX7_in ({ frames := 1, cells := 0, slots := 0, locals := 12 }) (Pc0 G sz [.long x0, .long x2, .long x4] ([] : va_W)) (Qz0 G (va_A ([] : va_W) sz) r ([] : va_W)) 0 0 (va_A ([] : va_W) sz) := by
  refine metP (Qf := fun A => Qz0 G A r ([] : va_W)) cX7_in 6 (some .boolean) (by decide) rfl (Nat.le_of_ble_eq_true rfl) ?_
  intro p e s m below meth c A ls hC hr hlocks hin hE hA hsz hP hD hS hl
  generalize hargs : ([.long x0, .long x2, .long x4] : List Value).toArray = args at hC ⊢
  obtain ⟨hx, hb, hml, hown, hts⟩ := id hC
  have hT : va_K G.1 vwCl (tyL G) s := hE.1
  have hRet : ∀ (r9 : Int32) (H : Heap) (locs : List Loc) (ls : Array Slot) (pc : Nat) (hK9 : r9 = r) (hn9 : narrow .boolean (.int r9) = .int r9) (hdg : decode cX7_in pc = .ok (.ireturn, 1)), va_P G.1 vwCl ([] : va_W) H → va_D A ([] : va_W) → va_S A s.heap H locs → W p l e ({ frames := 1, cells := 0, slots := 0, locals := 12 }) s m args below meth c H locs 0 0 (MQ below (Qz0 G A r ([] : va_W)) args s 0 0 A) (F0 m pc ls [.int r9]) := by
    intro r9 H locs ls pc hK9 hn9 hdg hP hD hS
    cases hK9
    exact W.zret hx hb hr hn9 (fun t ht hW => ⟨⟨r, (), rfl, ⟨rfl, hn9⟩, by rw [ht]; exact hP, hD⟩, hS.F ht⟩) hS.2.2 hdg hlocks
  generalize MQ below (Qz0 G A r ([] : va_W)) args s 0 0 A = Q at hRet ⊢
  have hl : lv_has ls 6 [(0, .long x0), (2, .long x2), (4, .long x4)] := hl
  have hK0 : r = r := rfl
  obtain ⟨res, hres, hK⟩ : ∃ res, p_X7_in x0 x2 x4 = some res ∧ res = r := ⟨_, hf, rfl⟩
  clear hf
  have hf := hres
  clear hres
  unfold p_X7_in at hf
  refine lv_lload_n hx hb dX7_in_0 rfl (lv_at hl 0 rfl) ?_
  refine lv_lload_n hx hb dX7_in_1 rfl (lv_at hl 1 rfl) ?_
  refine W.lcmp hx hb dX7_in_2 ?_
  refine lv_if_lt (tgt := 17) hx hb dX7_in_3 (by decide) (fun hc => ?_) (fun hc => ?_)
  · have hf := if_t hf hc
    refine lv_iconst (v := (nI 0)) hx hb dX7_in_17 (ic_0) ?_
    have hK9 := K0_of hf hK
    exact hRet (nI 0) _ _ _ _ hK9 rfl dX7_in_18 hP hD hS
  · have hf := if_f hf hc
    refine lv_lload_n hx hb dX7_in_6 rfl (lv_at hl 0 rfl) ?_
    refine lv_lload hx hb dX7_in_7 (lv_at hl 2 rfl) ?_
    refine W.lcmp hx hb dX7_in_9 ?_
    refine lv_if_gt (tgt := 17) hx hb dX7_in_10 (by decide) (fun hc => ?_) (fun hc => ?_)
    · have hf := if_t hf hc
      refine lv_iconst (v := (nI 0)) hx hb dX7_in_17 (ic_0) ?_
      have hK9 := K0_of hf hK
      exact hRet (nI 0) _ _ _ _ hK9 rfl dX7_in_18 hP hD hS
    · have hf := if_f hf hc
      refine lv_iconst (v := (nI 1)) hx hb dX7_in_13 (ic_1) ?_
      refine lv_goto (tgt := 18) hx hb dX7_in_14 (by decide) ?_
      have hK9 := K0_of hf hK
      exact hRet (nI 1) _ _ _ _ hK9 rfl dX7_in_18 hP hD hS
noncomputable def p_X7_feed (f : Mem) (x1 : Int32) : Option (Int32 × Mem) :=
  Option.bind (p_X7_in ((x1).toInt64) (lN 0) (127 : Int64)) <| fun r6 =>
  if r6 = 0 then
    (some ((-1 : Int32), f))
  else
    (if (f 0 5) = (nI 160) then
       (some ((-3 : Int32), f))
     else
       (gd (inb (f 0 5) 160) <|
        bnd (upd (f 3) (f 0 5).toNatClampNeg x1) <| fun g36 =>
        some (((f 0 5) + (nI 1)), (mset 0 5 ((f 0 5) + (nI 1)) (mrow 3 (g36) f)))))
set_option maxHeartbeats 4000000 in
set_option maxRecDepth 100000 in
theorem c_X7_feed (l : Launch) (G : Gt) (ad : Nat → Nat) (f : Mem) (x1 : Int32) (r : Int32) (fz : Mem) (hf : p_X7_feed f x1 = some (r, fz)) (sz : Nat) : Met l yX7_feed wsX7_feed ({ frames := 2, cells := 0, slots := 0, locals := 37 }) (Pc0 G sz [.ref (ad 0), .int x1] (wX7 G ad f)) (Qi0 G (va_A (wX7 G ad f) sz) r (wX7 G ad fz)) 0 0 (va_A (wX7 G ad f) sz) := by
  refine metP (Qf := fun A => Qi0 G A r (wX7 G ad fz)) cX7_feed 2 (some .int) (by decide) rfl (Nat.le_of_ble_eq_true rfl) ?_
  intro p e s m below meth c A ls hC hr hlocks hin hE hA hsz hP hD hS hl
  generalize hargs : ([.ref (ad 0), .int x1] : List Value).toArray = args at hC ⊢
  obtain ⟨hx, hb, hml, hown, hts⟩ := id hC
  have hT : va_K G.1 vwCl (tyL G) s := hE.1
  have hRet : ∀ (r9 : Int32) (f9 : Mem) (H : Heap) (locs : List Loc) (ls : Array Slot) (pc : Nat) (hK9 : (r9, f9) = (r, fz)) (hdg : decode cX7_feed pc = .ok (.ireturn, 1)), va_P G.1 vwCl (wX7 G ad f9) H → va_D A (wX7 G ad f9) → va_S A s.heap H locs → W p l e ({ frames := 2, cells := 0, slots := 0, locals := 37 }) s m args below meth c H locs 0 0 (MQ below (Qi0 G A r (wX7 G ad fz)) args s 0 0 A) (F0 m pc ls [.int r9]) := by
    intro r9 f9 H locs ls pc hK9 hdg hP hD hS
    cases hK9
    exact W.iret hx hb hr (fun t ht hW => ⟨⟨r, (), rfl, rfl, by rw [ht]; exact hP, hD⟩, hS.F ht⟩) hS.2.2 hdg hlocks
  generalize MQ below (Qi0 G A r (wX7 G ad fz)) args s 0 0 A = Q at hRet ⊢
  have lk50 := hts (.fieldLink RX7 50 "FeatherSharesModel" "taped" "I") (by decide +kernel)
  have inX7 : ∀ w ∈ u_ws RX7 TX7 34, w ∈ wsX7_feed := by decide +kernel
  have lk16 := hts (.fieldLink RX7 16 "FeatherSharesModel" "tape" "[I") (by decide +kernel)
  have hl : lv_has ls 2 [(0, .ref (ad 0)), (1, .int x1)] := hl
  have hK0 : (r, fz) = (r, fz) := rfl
  obtain ⟨res, hres, hK⟩ : ∃ res, p_X7_feed f x1 = some res ∧ res = (r, fz) := ⟨_, hf, rfl⟩
  clear hf
  have hf := hres
  clear hres
  unfold p_X7_feed at hf
  refine lv_iload_n hx hb dX7_feed_0 rfl (lv_at hl 1 rfl) ?_
  refine lv_i2l (v := ((x1).toInt64)) hx hb dX7_feed_1 rfl ?_
  refine lv_lconst (v := (lN 0)) hx hb dX7_feed_2 rfl ?_
  refine W.ldc2 (v := (127 : Int64)) hx hb hown (hts (.constantLong RX7 44 (127 : Int64)) (by decide +kernel)) rfl dX7_feed_3 ?_
  refine W.eq (g2 := F0 m 6 ls [.long (127 : Int64), .long (lN 0), .long ((x1).toInt64)]) rfl ?_
  obtain ⟨r6, hc6, hf⟩ := bd_e hf
  refine cl_z_ro (Wd := (wX7 G ad f)) (Wc := ([] : va_W)) [] rfl (va_runS (As := [.long ((x1).toInt64), .long (lN 0), .long (127 : Int64)]) (rest := []) hC (c_X7_in l G ((x1).toInt64) (lN 0) (127 : Int64) r6 hc6 _) (va_cwS 3 hts gX7_feed_X7_in rfl rfl rfl (by decide +kernel) ⟨Nat.le_of_ble_eq_true rfl, Nat.le_of_ble_eq_true rfl⟩) ⟨Pc0_blind, fun U hU hW => Pc0_at (Wd := ([] : va_W)) hE (hP.subm [] rfl) (hD.sub [] (by decide) rfl) hU hW⟩ rfl rfl hl.1 rfl (lv_room (Nat.le_of_ble_eq_true rfl)) dX7_feed_6 ⟨Nat.zero_le _, Nat.zero_le _⟩) hS hA hP hD (fun H locs hn6 hP hD hS => ?_)
  refine lv_if_ne (tgt := 14) hx hb dX7_feed_9 (by decide) (fun hc => ?_) (fun hc => ?_)
  · have hf := if_f hf hc
    refine lv_aload_n hx hb dX7_feed_14 rfl (lv_at hl 0 rfl) ?_
    refine va_get (C := RX7) (T := TX7) (N := 34) (ci := 7) (v := .int (f 0 5)) hx hb hts inX7 hown hT hP 0 rfl rfl 8 (Nat.le_of_ble_eq_true rfl) lk50 (fun _ h => h) rfl dX7_feed_15 ?_
    refine lv_sipush (v := (nI 160)) hx hb dX7_feed_18 (si_160) ?_
    refine lv_icmp_ne (tgt := 27) hx hb dX7_feed_21 (by decide) (fun hc => ?_) (fun hc => ?_)
    · have hf := if_f hf hc
      refine lv_aload_n hx hb dX7_feed_27 rfl (lv_at hl 0 rfl) ?_
      refine va_get (C := RX7) (T := TX7) (N := 34) (ci := 7) (v := .ref (ad 3)) hx hb hts inX7 hown hT hP 0 rfl rfl 7 (Nat.le_of_ble_eq_true rfl) lk16 (fun _ h => h) rfl dX7_feed_28 ?_
      refine lv_aload_n hx hb dX7_feed_31 rfl (lv_at hl 0 rfl) ?_
      refine va_get (C := RX7) (T := TX7) (N := 34) (ci := 7) (v := .int (f 0 5)) hx hb hts inX7 hown hT hP 0 rfl rfl 8 (Nat.le_of_ble_eq_true rfl) lk50 (fun _ h => h) rfl dX7_feed_32 ?_
      refine lv_iload_n hx hb dX7_feed_35 rfl (lv_at hl 1 rfl) ?_
      obtain ⟨hg, hf⟩ := gd_e hf
      obtain ⟨g36, eg36, hf⟩ := bnd_e hf
      refine va_iast (f := f 3) hx hb hT hP hD hS 3 0 rfl rfl (inb_e hg) dX7_feed_36 (fun H locs hP hD hS => ?_)
      rw [← eg36] at hP hD
      have hP : va_P G.1 vwCl (wX7 G ad (mrow 3 (g36) f)) H := hP
      have hD : va_D A (wX7 G ad (mrow 3 (g36) f)) := hD
      refine lv_aload_n hx hb dX7_feed_37 rfl (lv_at hl 0 rfl) ?_
      refine lv_dup hx hb dX7_feed_38 rfl ?_
      refine va_get (C := RX7) (T := TX7) (N := 34) (ci := 7) (v := .int (f 0 5)) hx hb hts inX7 hown hT hP 0 rfl rfl 8 (Nat.le_of_ble_eq_true rfl) lk50 (fun _ h => h) rfl dX7_feed_39 ?_
      refine lv_iconst (v := (nI 1)) hx hb dX7_feed_42 (ic_1) ?_
      refine lv_iadd hx hb dX7_feed_43 ?_
      refine va_put (C := RX7) (T := TX7) (N := 34) (ci := 7) (ty := .int) (v := .int ((f 0 5) + (nI 1))) hx hb hts inX7 tyX7 tyX7_ok nmX7 hown hT hP hD hS 0 rfl rfl 8 (Nat.le_of_ble_eq_true rfl) lk50 (fun _ h => h) rfl (by decide +kernel) rfl rfl (Nat.le_of_ble_eq_true rfl) dX7_feed_44 (fun H locs hP hD hS => ?_)
      have hP : va_P G.1 vwCl (wX7 G ad (mset 0 5 ((f 0 5) + (nI 1)) (mrow 3 (g36) f))) H := hP
      have hD : va_D A (wX7 G ad (mset 0 5 ((f 0 5) + (nI 1)) (mrow 3 (g36) f))) := hD
      refine lv_aload_n hx hb dX7_feed_47 rfl (lv_at hl 0 rfl) ?_
      refine va_get (C := RX7) (T := TX7) (N := 34) (ci := 7) (v := .int ((f 0 5) + (nI 1))) hx hb hts inX7 hown hT hP 0 rfl rfl 8 (Nat.le_of_ble_eq_true rfl) lk50 (fun _ h => h) rfl dX7_feed_48 ?_
      have hK9 := K0_of hf hK
      exact hRet ((f 0 5) + (nI 1)) (mset 0 5 ((f 0 5) + (nI 1)) (mrow 3 (g36) f)) _ _ _ _ hK9 dX7_feed_51 hP hD hS
    · have hf := if_t hf hc
      refine lv_bipush (v := (-3 : Int32)) hx hb dX7_feed_24 (bi_m3) ?_
      have hK9 := K0_of hf hK
      exact hRet (-3 : Int32) f _ _ _ _ hK9 dX7_feed_26 hP hD hS
  · have hf := if_t hf hc
    refine lv_iconst (v := (-1 : Int32)) hx hb dX7_feed_12 (ic_m1) ?_
    have hK9 := K0_of hf hK
    exact hRet (-1 : Int32) f _ _ _ _ hK9 dX7_feed_13 hP hD hS
noncomputable def p_X7_end (f : Mem) (x1 : Int32) : Option (Int32 × Mem) :=
  Option.bind (p_X7_in ((x1).toInt64) (lN 0) ((f 0 5).toInt64)) <| fun r8 =>
  if r8 = 0 then
    (some ((-1 : Int32), f))
  else
    (some ((f 0 5), (mset 0 5 x1 f)))
set_option maxHeartbeats 4000000 in
set_option maxRecDepth 100000 in
theorem c_X7_end (l : Launch) (G : Gt) (ad : Nat → Nat) (f : Mem) (x1 : Int32) (r : Int32) (fz : Mem) (hf : p_X7_end f x1 = some (r, fz)) (sz : Nat) : Met l yX7_end wsX7_end ({ frames := 2, cells := 0, slots := 0, locals := 37 }) (Pc0 G sz [.ref (ad 0), .int x1] (wX7 G ad f)) (Qi0 G (va_A (wX7 G ad f) sz) r (wX7 G ad fz)) 0 0 (va_A (wX7 G ad f) sz) := by
  refine metP (Qf := fun A => Qi0 G A r (wX7 G ad fz)) cX7_end 3 (some .int) (by decide) rfl (Nat.le_of_ble_eq_true rfl) ?_
  intro p e s m below meth c A ls hC hr hlocks hin hE hA hsz hP hD hS hl
  generalize hargs : ([.ref (ad 0), .int x1] : List Value).toArray = args at hC ⊢
  obtain ⟨hx, hb, hml, hown, hts⟩ := id hC
  have hT : va_K G.1 vwCl (tyL G) s := hE.1
  have hRet : ∀ (r9 : Int32) (f9 : Mem) (H : Heap) (locs : List Loc) (ls : Array Slot) (pc : Nat) (hK9 : (r9, f9) = (r, fz)) (hdg : decode cX7_end pc = .ok (.ireturn, 1)), va_P G.1 vwCl (wX7 G ad f9) H → va_D A (wX7 G ad f9) → va_S A s.heap H locs → W p l e ({ frames := 2, cells := 0, slots := 0, locals := 37 }) s m args below meth c H locs 0 0 (MQ below (Qi0 G A r (wX7 G ad fz)) args s 0 0 A) (F0 m pc ls [.int r9]) := by
    intro r9 f9 H locs ls pc hK9 hdg hP hD hS
    cases hK9
    exact W.iret hx hb hr (fun t ht hW => ⟨⟨r, (), rfl, rfl, by rw [ht]; exact hP, hD⟩, hS.F ht⟩) hS.2.2 hdg hlocks
  generalize MQ below (Qi0 G A r (wX7 G ad fz)) args s 0 0 A = Q at hRet ⊢
  have lk50 := hts (.fieldLink RX7 50 "FeatherSharesModel" "taped" "I") (by decide +kernel)
  have inX7 : ∀ w ∈ u_ws RX7 TX7 34, w ∈ wsX7_end := by decide +kernel
  have hl : lv_has ls 3 [(0, .ref (ad 0)), (1, .int x1)] := hl
  have hK0 : (r, fz) = (r, fz) := rfl
  obtain ⟨res, hres, hK⟩ : ∃ res, p_X7_end f x1 = some res ∧ res = (r, fz) := ⟨_, hf, rfl⟩
  clear hf
  have hf := hres
  clear hres
  unfold p_X7_end at hf
  refine lv_iload_n hx hb dX7_end_0 rfl (lv_at hl 1 rfl) ?_
  refine lv_i2l (v := ((x1).toInt64)) hx hb dX7_end_1 rfl ?_
  refine lv_lconst (v := (lN 0)) hx hb dX7_end_2 rfl ?_
  refine lv_aload_n hx hb dX7_end_3 rfl (lv_at hl 0 rfl) ?_
  refine va_get (C := RX7) (T := TX7) (N := 34) (ci := 7) (v := .int (f 0 5)) hx hb hts inX7 hown hT hP 0 rfl rfl 8 (Nat.le_of_ble_eq_true rfl) lk50 (fun _ h => h) rfl dX7_end_4 ?_
  refine lv_i2l (v := ((f 0 5).toInt64)) hx hb dX7_end_7 rfl ?_
  obtain ⟨r8, hc8, hf⟩ := bd_e hf
  refine cl_z_ro (Wd := (wX7 G ad f)) (Wc := ([] : va_W)) [] rfl (va_runS (As := [.long ((x1).toInt64), .long (lN 0), .long ((f 0 5).toInt64)]) (rest := []) hC (c_X7_in l G ((x1).toInt64) (lN 0) ((f 0 5).toInt64) r8 hc8 _) (va_cwS 3 hts gX7_end_X7_in rfl rfl rfl (by decide +kernel) ⟨Nat.le_of_ble_eq_true rfl, Nat.le_of_ble_eq_true rfl⟩) ⟨Pc0_blind, fun U hU hW => Pc0_at (Wd := ([] : va_W)) hE (hP.subm [] rfl) (hD.sub [] (by decide) rfl) hU hW⟩ rfl rfl hl.1 rfl (lv_room (Nat.le_of_ble_eq_true rfl)) dX7_end_8 ⟨Nat.zero_le _, Nat.zero_le _⟩) hS hA hP hD (fun H locs hn8 hP hD hS => ?_)
  refine lv_if_ne (tgt := 16) hx hb dX7_end_11 (by decide) (fun hc => ?_) (fun hc => ?_)
  · have hf := if_f hf hc
    refine lv_aload_n hx hb dX7_end_16 rfl (lv_at hl 0 rfl) ?_
    refine va_get (C := RX7) (T := TX7) (N := 34) (ci := 7) (v := .int (f 0 5)) hx hb hts inX7 hown hT hP 0 rfl rfl 8 (Nat.le_of_ble_eq_true rfl) lk50 (fun _ h => h) rfl dX7_end_17 ?_
    refine lv_istore_n (lv' := [(2, .int (f 0 5)), (0, .ref (ad 0)), (1, .int x1)]) hx hb dX7_end_20 rfl hl (by decide) rfl (fun ls hl => ?_)
    refine lv_aload_n hx hb dX7_end_21 rfl (lv_at hl 1 rfl) ?_
    refine lv_iload_n hx hb dX7_end_22 rfl (lv_at hl 2 rfl) ?_
    refine va_put (C := RX7) (T := TX7) (N := 34) (ci := 7) (ty := .int) (v := .int x1) hx hb hts inX7 tyX7 tyX7_ok nmX7 hown hT hP hD hS 0 rfl rfl 8 (Nat.le_of_ble_eq_true rfl) lk50 (fun _ h => h) rfl (by decide +kernel) rfl rfl (Nat.le_of_ble_eq_true rfl) dX7_end_23 (fun H locs hP hD hS => ?_)
    have hP : va_P G.1 vwCl (wX7 G ad (mset 0 5 x1 f)) H := hP
    have hD : va_D A (wX7 G ad (mset 0 5 x1 f)) := hD
    refine lv_iload_n hx hb dX7_end_26 rfl (lv_at hl 0 rfl) ?_
    have hK9 := K0_of hf hK
    exact hRet (f 0 5) (mset 0 5 x1 f) _ _ _ _ hK9 dX7_end_27 hP hD hS
  · have hf := if_t hf hc
    refine lv_iconst (v := (-1 : Int32)) hx hb dX7_end_14 (ic_m1) ?_
    have hK9 := K0_of hf hK
    exact hRet (-1 : Int32) f _ _ _ _ hK9 dX7_end_15 hP hD hS
noncomputable def p_X7_byteAt (f : Mem) (x1 : Int32) : Option (Int32) :=
  if (f 0 5) ≤ x1 then
    (some (-4 : Int32))
  else
    (gd (inb x1 160) <|
     some (f 3 x1.toNatClampNeg))
set_option maxHeartbeats 4000000 in
set_option maxRecDepth 100000 in
theorem c_X7_byteAt (l : Launch) (G : Gt) (ad : Nat → Nat) (f : Mem) (x1 : Int32) (r : Int32) (hf : p_X7_byteAt f x1 = some r) (sz : Nat) : Met l yX7_byteAt wsX7_byteAt ({ frames := 1, cells := 0, slots := 0, locals := 12 }) (Pc0 G sz [.ref (ad 0), .int x1] (wX7 G ad f)) (Qi0 G (va_A (wX7 G ad f) sz) r (wX7 G ad f)) 0 0 (va_A (wX7 G ad f) sz) := by
  refine metP (Qf := fun A => Qi0 G A r (wX7 G ad f)) cX7_byteAt 2 (some .int) (by decide) rfl (Nat.le_of_ble_eq_true rfl) ?_
  intro p e s m below meth c A ls hC hr hlocks hin hE hA hsz hP hD hS hl
  generalize hargs : ([.ref (ad 0), .int x1] : List Value).toArray = args at hC ⊢
  obtain ⟨hx, hb, hml, hown, hts⟩ := id hC
  have hT : va_K G.1 vwCl (tyL G) s := hE.1
  have hRet : ∀ (r9 : Int32) (H : Heap) (locs : List Loc) (ls : Array Slot) (pc : Nat) (hK9 : r9 = r) (hdg : decode cX7_byteAt pc = .ok (.ireturn, 1)), va_P G.1 vwCl (wX7 G ad f) H → va_D A (wX7 G ad f) → va_S A s.heap H locs → W p l e ({ frames := 1, cells := 0, slots := 0, locals := 12 }) s m args below meth c H locs 0 0 (MQ below (Qi0 G A r (wX7 G ad f)) args s 0 0 A) (F0 m pc ls [.int r9]) := by
    intro r9 H locs ls pc hK9 hdg hP hD hS
    cases hK9
    exact W.iret hx hb hr (fun t ht hW => ⟨⟨r, (), rfl, rfl, by rw [ht]; exact hP, hD⟩, hS.F ht⟩) hS.2.2 hdg hlocks
  generalize MQ below (Qi0 G A r (wX7 G ad f)) args s 0 0 A = Q at hRet ⊢
  have lk50 := hts (.fieldLink RX7 50 "FeatherSharesModel" "taped" "I") (by decide +kernel)
  have inX7 : ∀ w ∈ u_ws RX7 TX7 34, w ∈ wsX7_byteAt := by decide +kernel
  have lk16 := hts (.fieldLink RX7 16 "FeatherSharesModel" "tape" "[I") (by decide +kernel)
  have hl : lv_has ls 2 [(0, .ref (ad 0)), (1, .int x1)] := hl
  have hK0 : r = r := rfl
  obtain ⟨res, hres, hK⟩ : ∃ res, p_X7_byteAt f x1 = some res ∧ res = r := ⟨_, hf, rfl⟩
  clear hf
  have hf := hres
  clear hres
  unfold p_X7_byteAt at hf
  refine lv_iload_n hx hb dX7_byteAt_0 rfl (lv_at hl 1 rfl) ?_
  refine lv_aload_n hx hb dX7_byteAt_1 rfl (lv_at hl 0 rfl) ?_
  refine va_get (C := RX7) (T := TX7) (N := 34) (ci := 7) (v := .int (f 0 5)) hx hb hts inX7 hown hT hP 0 rfl rfl 8 (Nat.le_of_ble_eq_true rfl) lk50 (fun _ h => h) rfl dX7_byteAt_2 ?_
  refine lv_icmp_ge (tgt := 17) hx hb dX7_byteAt_5 (by decide) (fun hc => ?_) (fun hc => ?_)
  · have hf := if_t hf hc
    refine lv_bipush (v := (-4 : Int32)) hx hb dX7_byteAt_17 (bi_m4) ?_
    have hK9 := K0_of hf hK
    exact hRet (-4 : Int32) _ _ _ _ hK9 dX7_byteAt_19 hP hD hS
  · have hf := if_f hf hc
    refine lv_aload_n hx hb dX7_byteAt_8 rfl (lv_at hl 0 rfl) ?_
    refine va_get (C := RX7) (T := TX7) (N := 34) (ci := 7) (v := .ref (ad 3)) hx hb hts inX7 hown hT hP 0 rfl rfl 7 (Nat.le_of_ble_eq_true rfl) lk16 (fun _ h => h) rfl dX7_byteAt_9 ?_
    refine lv_iload_n hx hb dX7_byteAt_12 rfl (lv_at hl 1 rfl) ?_
    obtain ⟨hg, hf⟩ := gd_e hf
    refine va_iald (f := f 3) hx hb hT hP 3 0 rfl rfl (inb_e hg) dX7_byteAt_13 ?_
    refine lv_goto (tgt := 19) hx hb dX7_byteAt_14 (by decide) ?_
    have hK9 := K0_of hf hK
    exact hRet (f 3 x1.toNatClampNeg) _ _ _ _ hK9 dX7_byteAt_19 hP hD hS
noncomputable def p_X7_fails (f : Mem) (x1 : Int32) : Option (Mem) :=
  if (f 0 7) = 0 then
    (some (mset 0 8 (f 0 10) (mset 0 7 x1 f)))
  else
    (some f)
set_option maxHeartbeats 4000000 in
set_option maxRecDepth 100000 in
theorem c_X7_fails (l : Launch) (G : Gt) (ad : Nat → Nat) (f : Mem) (x1 : Int32) (fz : Mem) (hf : p_X7_fails f x1 = some fz) (sz : Nat) : Met l yX7_fails wsX7_fails ({ frames := 1, cells := 0, slots := 0, locals := 12 }) (Pc0 G sz [.ref (ad 0), .int x1] (wX7 G ad f)) (Qv0 G (va_A (wX7 G ad f) sz) (wX7 G ad fz)) 0 0 (va_A (wX7 G ad f) sz) := by
  refine metP (Qf := fun A => Qv0 G A (wX7 G ad fz)) cX7_fails 2 (none) (by decide) rfl (Nat.le_of_ble_eq_true rfl) ?_
  intro p e s m below meth c A ls hC hr hlocks hin hE hA hsz hP hD hS hl
  generalize hargs : ([.ref (ad 0), .int x1] : List Value).toArray = args at hC ⊢
  obtain ⟨hx, hb, hml, hown, hts⟩ := id hC
  have hT : va_K G.1 vwCl (tyL G) s := hE.1
  have hRet : ∀ (f9 : Mem) (H : Heap) (locs : List Loc) (ls : Array Slot) (pc : Nat) (hK9 : f9 = fz) (hdg : decode cX7_fails pc = .ok (.return_, 1)), va_P G.1 vwCl (wX7 G ad f9) H → va_D A (wX7 G ad f9) → va_S A s.heap H locs → W p l e ({ frames := 1, cells := 0, slots := 0, locals := 12 }) s m args below meth c H locs 0 0 (MQ below (Qv0 G A (wX7 G ad fz)) args s 0 0 A) (F0 m pc ls []) := by
    intro f9 H locs ls pc hK9 hdg hP hD hS
    cases hK9
    exact W.vret hx hb hr (fun t ht hW => ⟨⟨(), rfl, trivial, by rw [ht]; exact hP, hD⟩, hS.F ht⟩) hS.2.2 hdg hlocks
  generalize MQ below (Qv0 G A (wX7 G ad fz)) args s 0 0 A = Q at hRet ⊢
  have lk54 := hts (.fieldLink RX7 54 "FeatherSharesModel" "broken" "I") (by decide +kernel)
  have inX7 : ∀ w ∈ u_ws RX7 TX7 34, w ∈ wsX7_fails := by decide +kernel
  have lk57 := hts (.fieldLink RX7 57 "FeatherSharesModel" "here" "I") (by decide +kernel)
  have lk60 := hts (.fieldLink RX7 60 "FeatherSharesModel" "brokenAt" "I") (by decide +kernel)
  have hl : lv_has ls 2 [(0, .ref (ad 0)), (1, .int x1)] := hl
  have hK0 : fz = fz := rfl
  obtain ⟨res, hres, hK⟩ : ∃ res, p_X7_fails f x1 = some res ∧ res = fz := ⟨_, hf, rfl⟩
  clear hf
  have hf := hres
  clear hres
  unfold p_X7_fails at hf
  refine lv_aload_n hx hb dX7_fails_0 rfl (lv_at hl 0 rfl) ?_
  refine va_get (C := RX7) (T := TX7) (N := 34) (ci := 7) (v := .int (f 0 7)) hx hb hts inX7 hown hT hP 0 rfl rfl 10 (Nat.le_of_ble_eq_true rfl) lk54 (fun _ h => h) rfl dX7_fails_1 ?_
  refine lv_if_ne (tgt := 20) hx hb dX7_fails_4 (by decide) (fun hc => ?_) (fun hc => ?_)
  · have hf := if_f hf hc
    have hK9 := K0_of hf hK
    exact hRet f _ _ _ _ hK9 dX7_fails_20 hP hD hS
  · have hf := if_t hf hc
    refine lv_aload_n hx hb dX7_fails_7 rfl (lv_at hl 0 rfl) ?_
    refine lv_iload_n hx hb dX7_fails_8 rfl (lv_at hl 1 rfl) ?_
    refine va_put (C := RX7) (T := TX7) (N := 34) (ci := 7) (ty := .int) (v := .int x1) hx hb hts inX7 tyX7 tyX7_ok nmX7 hown hT hP hD hS 0 rfl rfl 10 (Nat.le_of_ble_eq_true rfl) lk54 (fun _ h => h) rfl (by decide +kernel) rfl rfl (Nat.le_of_ble_eq_true rfl) dX7_fails_9 (fun H locs hP hD hS => ?_)
    have hP : va_P G.1 vwCl (wX7 G ad (mset 0 7 x1 f)) H := hP
    have hD : va_D A (wX7 G ad (mset 0 7 x1 f)) := hD
    refine lv_aload_n hx hb dX7_fails_12 rfl (lv_at hl 0 rfl) ?_
    refine lv_aload_n hx hb dX7_fails_13 rfl (lv_at hl 0 rfl) ?_
    refine va_get (C := RX7) (T := TX7) (N := 34) (ci := 7) (v := .int (f 0 10)) hx hb hts inX7 hown hT hP 0 rfl rfl 13 (Nat.le_of_ble_eq_true rfl) lk57 (fun _ h => h) rfl dX7_fails_14 ?_
    refine va_put (C := RX7) (T := TX7) (N := 34) (ci := 7) (ty := .int) (v := .int (f 0 10)) hx hb hts inX7 tyX7 tyX7_ok nmX7 hown hT hP hD hS 0 rfl rfl 11 (Nat.le_of_ble_eq_true rfl) lk60 (fun _ h => h) rfl (by decide +kernel) rfl rfl (Nat.le_of_ble_eq_true rfl) dX7_fails_17 (fun H locs hP hD hS => ?_)
    have hP : va_P G.1 vwCl (wX7 G ad (mset 0 8 (f 0 10) (mset 0 7 x1 f))) H := hP
    have hD : va_D A (wX7 G ad (mset 0 8 (f 0 10) (mset 0 7 x1 f))) := hD
    have hK9 := K0_of hf hK
    exact hRet (mset 0 8 (f 0 10) (mset 0 7 x1 f)) _ _ _ _ hK9 dX7_fails_20 hP hD hS
noncomputable def p_X7_nameHere_B106 (f : Mem) (x1 : Int32) (x2 : Int32) : Option (Int32 ⊕ (Unit ⊕ Int32)) :=
  if x2 = 0 then
    (some (Sum.inl (x1 + nI 1)))
  else
    (some (Sum.inr (Sum.inr x1)))
noncomputable def p_X7_nameHere_L51 (f : Mem) (x1 : Int32) (z : Int32 × Int32) : Option ((Int32 × Int32) ⊕ Int32) :=
  match z with
  | (x2, x3) =>
    if x2 = 0 then
      (some (Sum.inr x2))
    else
      (if ((f 0 9) - (f 0 10)) ≤ x3 then
         (some (Sum.inr x2))
       else
         (Option.bind (p_X7_byteAt f ((f 0 10) + x3)) <| fun r75 =>
          gd (inb x1 8) <|
          gd (inb ((f 4 x1.toNatClampNeg) + x3) 36) <|
          if r75 = (f 5 ((f 4 x1.toNatClampNeg) + x3).toNatClampNeg) then
            (some (Sum.inl ((nI 1), (x3 + nI 1))))
          else
            (some (Sum.inl ((nI 0), (x3 + nI 1))))))
noncomputable def p_X7_nameHere_B48 (f : Mem) (x1 : Int32) (s0 : Int32) : Option (Int32 ⊕ (Unit ⊕ Int32)) :=
  Option.bind (lp (p_X7_nameHere_L51 f x1) (s0, (nI 0))) <| fun y2_51 =>
  p_X7_nameHere_B106 f x1 y2_51
noncomputable def p_X7_nameHere_L2 (f : Mem) (x1 : Int32) : Option (Int32 ⊕ (Unit ⊕ Int32)) :=
  if (nI 7) ≤ x1 then
    (some (Sum.inr (Sum.inl ())))
  else
    (if (f 0 11) = (nI 1) then
       (gd (inb (x1 + (nI 1)) 8) <|
        gd (inb x1 8) <|
        if ((f 0 9) - (f 0 10)) = ((f 4 (x1 + (nI 1)).toNatClampNeg) - (f 4 x1.toNatClampNeg)) then
          (p_X7_nameHere_B48 f x1 (nI 1))
        else
          (p_X7_nameHere_B48 f x1 (nI 0)))
     else
       (some (Sum.inr (Sum.inl ()))))
noncomputable def p_X7_nameHere (f : Mem) : Option (Int32) :=
  Option.bind (lp (p_X7_nameHere_L2 f) (nI 0)) <| Sum.elim (fun _ =>
    some (-4 : Int32)) some
set_option maxHeartbeats 4000000 in
set_option maxRecDepth 100000 in
theorem c_X7_nameHere (l : Launch) (G : Gt) (ad : Nat → Nat) (f : Mem) (r : Int32) (hf : p_X7_nameHere f = some r) (sz : Nat) : Met l yX7_nameHere wsX7_nameHere ({ frames := 2, cells := 0, slots := 0, locals := 33 }) (Pc0 G sz [.ref (ad 0)] (wX7 G ad f)) (Qi0 G (va_A (wX7 G ad f) sz) r (wX7 G ad f)) 0 0 (va_A (wX7 G ad f) sz) := by
  refine metP (Qf := fun A => Qi0 G A r (wX7 G ad f)) cX7_nameHere 4 (some .int) (by decide) rfl (Nat.le_of_ble_eq_true rfl) ?_
  intro p e s m below meth c A ls hC hr hlocks hin hE hA hsz hP hD hS hl
  generalize hargs : ([.ref (ad 0)] : List Value).toArray = args at hC ⊢
  obtain ⟨hx, hb, hml, hown, hts⟩ := id hC
  have hT : va_K G.1 vwCl (tyL G) s := hE.1
  have hRet : ∀ (r9 : Int32) (H : Heap) (locs : List Loc) (ls : Array Slot) (pc : Nat) (hK9 : r9 = r) (hdg : decode cX7_nameHere pc = .ok (.ireturn, 1)), va_P G.1 vwCl (wX7 G ad f) H → va_D A (wX7 G ad f) → va_S A s.heap H locs → W p l e ({ frames := 2, cells := 0, slots := 0, locals := 33 }) s m args below meth c H locs 0 0 (MQ below (Qi0 G A r (wX7 G ad f)) args s 0 0 A) (F0 m pc ls [.int r9]) := by
    intro r9 H locs ls pc hK9 hdg hP hD hS
    cases hK9
    exact W.iret hx hb hr (fun t ht hW => ⟨⟨r, (), rfl, rfl, by rw [ht]; exact hP, hD⟩, hS.F ht⟩) hS.2.2 hdg hlocks
  generalize MQ below (Qi0 G A r (wX7 G ad f)) args s 0 0 A = Q at hRet ⊢
  have lk66 := hts (.fieldLink RX7 66 "FeatherSharesModel" "spot" "I") (by decide +kernel)
  have inX7 : ∀ w ∈ u_ws RX7 TX7 34, w ∈ wsX7_nameHere := by decide +kernel
  have lk57 := hts (.fieldLink RX7 57 "FeatherSharesModel" "here" "I") (by decide +kernel)
  have lk22 := hts (.fieldLink RX7 22 "FeatherSharesModel" "letters" "[I") (by decide +kernel)
  have lk19 := hts (.fieldLink RX7 19 "FeatherSharesModel" "cuts" "[I") (by decide +kernel)
  have lk63 := hts (.fieldLink RX7 63 "FeatherSharesModel" "token" "I") (by decide +kernel)
  have hl : lv_has ls 4 [(0, .ref (ad 0))] := hl
  have hK0 : r = r := rfl
  obtain ⟨res, hres, hK⟩ : ∃ res, p_X7_nameHere f = some res ∧ res = r := ⟨_, hf, rfl⟩
  clear hf
  have hf := hres
  clear hres
  unfold p_X7_nameHere at hf
  refine lv_iconst (v := (nI 0)) hx hb dX7_nameHere_0 (ic_0) ?_
  refine lv_istore_n (lv' := [(1, .int (nI 0)), (0, .ref (ad 0))]) hx hb dX7_nameHere_1 rfl hl (by decide) rfl (fun ls hl => ?_)
  obtain ⟨ze, hlp, hf⟩ := bd_e hf
  refine lp_W2 (p_X7_nameHere_L2 f) (fun (x1 : Int32) => ∀ (H : Heap) (locs : List Loc) (ls : Array Slot), va_P G.1 vwCl (wX7 G ad f) H → va_D A (wX7 G ad f) → va_S A s.heap H locs → lv_has ls 4 [(0, .ref (ad 0)), (1, .int x1)] → W p l e ({ frames := 2, cells := 0, slots := 0, locals := 33 }) s m args below meth c H locs 0 0 Q (F0 m 2 ls [])) (fun z => match z with | () => ∀ (H : Heap) (locs : List Loc) (ls : Array Slot), va_P G.1 vwCl (wX7 G ad f) H → va_D A (wX7 G ad f) → va_S A s.heap H locs → lv_has ls 4 [] → W p l e ({ frames := 2, cells := 0, slots := 0, locals := 33 }) s m args below meth c H locs 0 0 Q (F0 m 118 ls [])) (fun z => z = r) ?_ hlp ?_ _ _ _ hP hD hS (lv_sub hl [1, 0] rfl)
  · clear hlp hf hK hP hD hS hl
    intro K2 hW2 hX2 hO2
    have hB106 : ∀ (x1 : Int32) (x2 : Int32) (res : Int32 ⊕ (Unit ⊕ Int32)) (hf : p_X7_nameHere_B106 f x1 x2 = some res) (hK : K2 res), ∀ (H : Heap) (locs : List Loc) (ls : Array Slot), va_P G.1 vwCl (wX7 G ad f) H → va_D A (wX7 G ad f) → va_S A s.heap H locs → lv_has ls 4 [(0, .ref (ad 0)), (1, .int x1), (2, .int x2)] → W p l e ({ frames := 2, cells := 0, slots := 0, locals := 33 }) s m args below meth c H locs 0 0 Q (F0 m 106 ls []) := by
      intro x1 x2 res hf hK H locs ls hP hD hS hl
      unfold p_X7_nameHere_B106 at hf
      refine lv_iload_n hx hb dX7_nameHere_106 rfl (lv_at hl 2 rfl) ?_
      refine lv_if_eq (tgt := 112) hx hb dX7_nameHere_107 (by decide) (fun hc => ?_) (fun hc => ?_)
      · have hf := if_t hf hc
        refine lv_iinc (v := (x1 + nI 1)) (lv' := [(1, .int (x1 + nI 1)), (0, .ref (ad 0)), (2, .int x2)]) hx hb dX7_nameHere_112 hl (k := 1) rfl (ii_x 1 _) (by decide) rfl (fun ls hl => ?_)
        refine lv_goto (tgt := 2) hx hb dX7_nameHere_115 (by decide) ?_
        have hK9 := K_of hf hK
        have hK9 := hW2 _ hK9
        exact hK9 _ _ _ hP hD hS (lv_sub hl [1, 0] rfl)
      · have hf := if_f hf hc
        refine lv_iload_n hx hb dX7_nameHere_110 rfl (lv_at hl 1 rfl) ?_
        have hK9 := K_of hf hK
        have hK9 := hO2 _ hK9
        exact hRet x1 _ _ _ _ hK9 dX7_nameHere_111 hP hD hS
    have hB48 : ∀ (x1 : Int32) (s0 : Int32) (res : Int32 ⊕ (Unit ⊕ Int32)) (hf : p_X7_nameHere_B48 f x1 s0 = some res) (hK : K2 res), ∀ (H : Heap) (locs : List Loc) (ls : Array Slot), va_P G.1 vwCl (wX7 G ad f) H → va_D A (wX7 G ad f) → va_S A s.heap H locs → lv_has ls 4 [(0, .ref (ad 0)), (1, .int x1)] → W p l e ({ frames := 2, cells := 0, slots := 0, locals := 33 }) s m args below meth c H locs 0 0 Q (F0 m 48 ls [.int s0]) := by
      intro x1 s0 res hf hK H locs ls hP hD hS hl
      unfold p_X7_nameHere_B48 at hf
      refine lv_istore_n (lv' := [(2, .int s0), (0, .ref (ad 0)), (1, .int x1)]) hx hb dX7_nameHere_48 rfl hl (by decide) rfl (fun ls hl => ?_)
      refine lv_iconst (v := (nI 0)) hx hb dX7_nameHere_49 (ic_0) ?_
      refine lv_istore_n (lv' := [(3, .int (nI 0)), (2, .int s0), (0, .ref (ad 0)), (1, .int x1)]) hx hb dX7_nameHere_50 rfl hl (by decide) rfl (fun ls hl => ?_)
      obtain ⟨y2_51, hlp, hf⟩ := bd_e hf
      refine lp_W1 (p_X7_nameHere_L51 f x1) (fun z => match z with | (x2, x3) => ∀ (H : Heap) (locs : List Loc) (ls : Array Slot), va_P G.1 vwCl (wX7 G ad f) H → va_D A (wX7 G ad f) → va_S A s.heap H locs → lv_has ls 4 [(0, .ref (ad 0)), (1, .int x1), (2, .int x2), (3, .int x3)] → W p l e ({ frames := 2, cells := 0, slots := 0, locals := 33 }) s m args below meth c H locs 0 0 Q (F0 m 51 ls [])) (fun (y2_51 : Int32) => ∀ (H : Heap) (locs : List Loc) (ls : Array Slot), va_P G.1 vwCl (wX7 G ad f) H → va_D A (wX7 G ad f) → va_S A s.heap H locs → lv_has ls 4 [(0, .ref (ad 0)), (1, .int x1), (2, .int y2_51)] → W p l e ({ frames := 2, cells := 0, slots := 0, locals := 33 }) s m args below meth c H locs 0 0 Q (F0 m 106 ls [])) ?_ hlp ?_ _ _ _ hP hD hS (lv_sub hl [2, 3, 1, 0] rfl)
      · clear hlp hf hK hP hD hS hl
        intro K51 hW51 hX51 
        rintro ⟨x2, x3⟩ res hf hK H locs ls hP hD hS hl
        unfold p_X7_nameHere_L51 at hf
        dsimp only at hf
        refine lv_iload_n hx hb dX7_nameHere_51 rfl (lv_at hl 2 rfl) ?_
        refine lv_if_eq (tgt := 106) hx hb dX7_nameHere_52 (by decide) (fun hc => ?_) (fun hc => ?_)
        · have hf := if_t hf hc
          have hK9 := K_of hf hK
          have hK9 := hX51 _ hK9
          exact hK9 _ _ _ hP hD hS (lv_sub hl [0, 1, 2] rfl)
        · have hf := if_f hf hc
          refine lv_iload_n hx hb dX7_nameHere_55 rfl (lv_at hl 3 rfl) ?_
          refine lv_aload_n hx hb dX7_nameHere_56 rfl (lv_at hl 0 rfl) ?_
          refine va_get (C := RX7) (T := TX7) (N := 34) (ci := 7) (v := .int (f 0 9)) hx hb hts inX7 hown hT hP 0 rfl rfl 12 (Nat.le_of_ble_eq_true rfl) lk66 (fun _ h => h) rfl dX7_nameHere_57 ?_
          refine lv_aload_n hx hb dX7_nameHere_60 rfl (lv_at hl 0 rfl) ?_
          refine va_get (C := RX7) (T := TX7) (N := 34) (ci := 7) (v := .int (f 0 10)) hx hb hts inX7 hown hT hP 0 rfl rfl 13 (Nat.le_of_ble_eq_true rfl) lk57 (fun _ h => h) rfl dX7_nameHere_61 ?_
          refine lv_isub hx hb dX7_nameHere_64 ?_
          refine lv_icmp_ge (tgt := 106) hx hb dX7_nameHere_65 (by decide) (fun hc => ?_) (fun hc => ?_)
          · have hf := if_t hf hc
            have hK9 := K_of hf hK
            have hK9 := hX51 _ hK9
            exact hK9 _ _ _ hP hD hS (lv_sub hl [0, 1, 2] rfl)
          · have hf := if_f hf hc
            refine lv_aload_n hx hb dX7_nameHere_68 rfl (lv_at hl 0 rfl) ?_
            refine lv_aload_n hx hb dX7_nameHere_69 rfl (lv_at hl 0 rfl) ?_
            refine va_get (C := RX7) (T := TX7) (N := 34) (ci := 7) (v := .int (f 0 10)) hx hb hts inX7 hown hT hP 0 rfl rfl 13 (Nat.le_of_ble_eq_true rfl) lk57 (fun _ h => h) rfl dX7_nameHere_70 ?_
            refine lv_iload_n hx hb dX7_nameHere_73 rfl (lv_at hl 3 rfl) ?_
            refine lv_iadd hx hb dX7_nameHere_74 ?_
            obtain ⟨r75, hc75, hf⟩ := bd_e hf
            refine cl_i_same (Wd := (wX7 G ad f)) (W' := (wX7 G ad f)) (va_runV (As := [.int ((f 0 10) + x3)]) (rest := []) hC (c_X7_byteAt l G ad f ((f 0 10) + x3) r75 hc75 _) (cwV 1 hts gX7_nameHere_X7_byteAt rfl rfl rfl (by decide +kernel) ⟨Nat.le_of_ble_eq_true rfl, Nat.le_of_ble_eq_true rfl⟩) ⟨Pc0_blind, va_recv hT hP (q0 := 0) (ci := 7) rfl rfl, fun U hU hW => Pc0_at hE hP hD hU hW⟩ rfl rfl hl.1 rfl (lv_room (Nat.le_of_ble_eq_true rfl)) dX7_nameHere_75 ⟨Nat.zero_le _, Nat.zero_le _⟩) hS hA hD (fun H locs hP hD hS => ?_)
            refine lv_aload_n hx hb dX7_nameHere_78 rfl (lv_at hl 0 rfl) ?_
            refine va_get (C := RX7) (T := TX7) (N := 34) (ci := 7) (v := .ref (ad 5)) hx hb hts inX7 hown hT hP 0 rfl rfl 17 (Nat.le_of_ble_eq_true rfl) lk22 (fun _ h => h) rfl dX7_nameHere_79 ?_
            refine lv_aload_n hx hb dX7_nameHere_82 rfl (lv_at hl 0 rfl) ?_
            refine va_get (C := RX7) (T := TX7) (N := 34) (ci := 7) (v := .ref (ad 4)) hx hb hts inX7 hown hT hP 0 rfl rfl 16 (Nat.le_of_ble_eq_true rfl) lk19 (fun _ h => h) rfl dX7_nameHere_83 ?_
            refine lv_iload_n hx hb dX7_nameHere_86 rfl (lv_at hl 1 rfl) ?_
            obtain ⟨hg, hf⟩ := gd_e hf
            refine va_iald (f := f 4) hx hb hT hP 4 0 rfl rfl (inb_e hg) dX7_nameHere_87 ?_
            refine lv_iload_n hx hb dX7_nameHere_88 rfl (lv_at hl 3 rfl) ?_
            refine lv_iadd hx hb dX7_nameHere_89 ?_
            obtain ⟨hg, hf⟩ := gd_e hf
            refine va_iald (f := f 5) hx hb hT hP 5 0 rfl rfl (inb_e hg) dX7_nameHere_90 ?_
            refine lv_icmp_ne (tgt := 98) hx hb dX7_nameHere_91 (by decide) (fun hc => ?_) (fun hc => ?_)
            · have hf := if_f hf hc
              refine lv_iconst (v := (nI 0)) hx hb dX7_nameHere_98 (ic_0) ?_
              refine lv_istore_n (lv' := [(2, .int (nI 0)), (0, .ref (ad 0)), (1, .int x1), (3, .int x3)]) hx hb dX7_nameHere_99 rfl hl (by decide) rfl (fun ls hl => ?_)
              refine lv_iinc (v := (x3 + nI 1)) (lv' := [(3, .int (x3 + nI 1)), (2, .int (nI 0)), (0, .ref (ad 0)), (1, .int x1)]) hx hb dX7_nameHere_100 hl (k := 3) rfl (ii_x 1 _) (by decide) rfl (fun ls hl => ?_)
              refine lv_goto (tgt := 51) hx hb dX7_nameHere_103 (by decide) ?_
              have hK9 := K_of hf hK
              have hK9 := hW51 _ hK9
              exact hK9 _ _ _ hP hD hS (lv_sub hl [2, 3, 1, 0] rfl)
            · have hf := if_t hf hc
              refine lv_iconst (v := (nI 1)) hx hb dX7_nameHere_94 (ic_1) ?_
              refine lv_goto (tgt := 99) hx hb dX7_nameHere_95 (by decide) ?_
              refine lv_istore_n (lv' := [(2, .int (nI 1)), (0, .ref (ad 0)), (1, .int x1), (3, .int x3)]) hx hb dX7_nameHere_99 rfl hl (by decide) rfl (fun ls hl => ?_)
              refine lv_iinc (v := (x3 + nI 1)) (lv' := [(3, .int (x3 + nI 1)), (2, .int (nI 1)), (0, .ref (ad 0)), (1, .int x1)]) hx hb dX7_nameHere_100 hl (k := 3) rfl (ii_x 1 _) (by decide) rfl (fun ls hl => ?_)
              refine lv_goto (tgt := 51) hx hb dX7_nameHere_103 (by decide) ?_
              have hK9 := K_of hf hK
              have hK9 := hW51 _ hK9
              exact hK9 _ _ _ hP hD hS (lv_sub hl [2, 3, 1, 0] rfl)
      · try dsimp only at hf
        show ∀ (H : Heap) (locs : List Loc) (ls : Array Slot), va_P G.1 vwCl (wX7 G ad f) H → va_D A (wX7 G ad f) → va_S A s.heap H locs → lv_has ls 4 [(0, .ref (ad 0)), (1, .int x1), (2, .int y2_51)] → W p l e ({ frames := 2, cells := 0, slots := 0, locals := 33 }) s m args below meth c H locs 0 0 Q (F0 m 106 ls [])
        intro H locs ls hP hD hS hl
        exact hB106 x1 y2_51 _ hf hK _ _ _ hP hD hS (lv_sub hl [0, 1, 2] rfl)
    rintro x1 res hf hK H locs ls hP hD hS hl
    unfold p_X7_nameHere_L2 at hf
    refine lv_iload_n hx hb dX7_nameHere_2 rfl (lv_at hl 1 rfl) ?_
    refine lv_bipush (v := (nI 7)) hx hb dX7_nameHere_3 (bi_7) ?_
    refine lv_icmp_ge (tgt := 118) hx hb dX7_nameHere_5 (by decide) (fun hc => ?_) (fun hc => ?_)
    · have hf := if_t hf hc
      have hK9 := K_of hf hK
      have hK9 := hX2 _ hK9
      exact hK9 _ _ _ hP hD hS (lv_sub hl [] rfl)
    · have hf := if_f hf hc
      refine lv_aload_n hx hb dX7_nameHere_8 rfl (lv_at hl 0 rfl) ?_
      refine va_get (C := RX7) (T := TX7) (N := 34) (ci := 7) (v := .int (f 0 11)) hx hb hts inX7 hown hT hP 0 rfl rfl 14 (Nat.le_of_ble_eq_true rfl) lk63 (fun _ h => h) rfl dX7_nameHere_9 ?_
      refine lv_iconst (v := (nI 1)) hx hb dX7_nameHere_12 (ic_1) ?_
      refine lv_icmp_ne (tgt := 118) hx hb dX7_nameHere_13 (by decide) (fun hc => ?_) (fun hc => ?_)
      · have hf := if_f hf hc
        have hK9 := K_of hf hK
        have hK9 := hX2 _ hK9
        exact hK9 _ _ _ hP hD hS (lv_sub hl [] rfl)
      · have hf := if_t hf hc
        refine lv_aload_n hx hb dX7_nameHere_16 rfl (lv_at hl 0 rfl) ?_
        refine va_get (C := RX7) (T := TX7) (N := 34) (ci := 7) (v := .int (f 0 9)) hx hb hts inX7 hown hT hP 0 rfl rfl 12 (Nat.le_of_ble_eq_true rfl) lk66 (fun _ h => h) rfl dX7_nameHere_17 ?_
        refine lv_aload_n hx hb dX7_nameHere_20 rfl (lv_at hl 0 rfl) ?_
        refine va_get (C := RX7) (T := TX7) (N := 34) (ci := 7) (v := .int (f 0 10)) hx hb hts inX7 hown hT hP 0 rfl rfl 13 (Nat.le_of_ble_eq_true rfl) lk57 (fun _ h => h) rfl dX7_nameHere_21 ?_
        refine lv_isub hx hb dX7_nameHere_24 ?_
        refine lv_aload_n hx hb dX7_nameHere_25 rfl (lv_at hl 0 rfl) ?_
        refine va_get (C := RX7) (T := TX7) (N := 34) (ci := 7) (v := .ref (ad 4)) hx hb hts inX7 hown hT hP 0 rfl rfl 16 (Nat.le_of_ble_eq_true rfl) lk19 (fun _ h => h) rfl dX7_nameHere_26 ?_
        refine lv_iload_n hx hb dX7_nameHere_29 rfl (lv_at hl 1 rfl) ?_
        refine lv_iconst (v := (nI 1)) hx hb dX7_nameHere_30 (ic_1) ?_
        refine lv_iadd hx hb dX7_nameHere_31 ?_
        obtain ⟨hg, hf⟩ := gd_e hf
        refine va_iald (f := f 4) hx hb hT hP 4 0 rfl rfl (inb_e hg) dX7_nameHere_32 ?_
        refine lv_aload_n hx hb dX7_nameHere_33 rfl (lv_at hl 0 rfl) ?_
        refine va_get (C := RX7) (T := TX7) (N := 34) (ci := 7) (v := .ref (ad 4)) hx hb hts inX7 hown hT hP 0 rfl rfl 16 (Nat.le_of_ble_eq_true rfl) lk19 (fun _ h => h) rfl dX7_nameHere_34 ?_
        refine lv_iload_n hx hb dX7_nameHere_37 rfl (lv_at hl 1 rfl) ?_
        obtain ⟨hg, hf⟩ := gd_e hf
        refine va_iald (f := f 4) hx hb hT hP 4 0 rfl rfl (inb_e hg) dX7_nameHere_38 ?_
        refine lv_isub hx hb dX7_nameHere_39 ?_
        refine lv_icmp_ne (tgt := 47) hx hb dX7_nameHere_40 (by decide) (fun hc => ?_) (fun hc => ?_)
        · have hf := if_f hf hc
          refine lv_iconst (v := (nI 0)) hx hb dX7_nameHere_47 (ic_0) ?_
          exact hB48 x1 (nI 0) _ hf hK _ _ _ hP hD hS (lv_sub hl [0, 1] rfl)
        · have hf := if_t hf hc
          refine lv_iconst (v := (nI 1)) hx hb dX7_nameHere_43 (ic_1) ?_
          refine lv_goto (tgt := 48) hx hb dX7_nameHere_44 (by decide) ?_
          exact hB48 x1 (nI 1) _ hf hK _ _ _ hP hD hS (lv_sub hl [0, 1] rfl)
  · rcases ze with _u | zo
    · try simp only [Sum.elim_inl] at hf
      try dsimp only at hf
      show ∀ (H : Heap) (locs : List Loc) (ls : Array Slot), va_P G.1 vwCl (wX7 G ad f) H → va_D A (wX7 G ad f) → va_S A s.heap H locs → lv_has ls 4 [] → W p l e ({ frames := 2, cells := 0, slots := 0, locals := 33 }) s m args below meth c H locs 0 0 Q (F0 m 118 ls [])
      intro H locs ls hP hD hS hl
      refine lv_bipush (v := (-4 : Int32)) hx hb dX7_nameHere_118 (bi_m4) ?_
      have hK9 := K0_of hf hK
      exact hRet (-4 : Int32) _ _ _ _ hK9 dX7_nameHere_120 hP hD hS
    · have hK9 := K0_of (show some zo = some _ from hf) hK
      exact hK9
noncomputable def p_X7_step_L8  (f_ : Mem) : Option (Mem ⊕ Mem) :=
  Option.bind (p_X7_byteAt f_ (f_ 0 9)) <| fun r13 =>
  if r13 = (nI 32) then
    (some (Sum.inl (mset 0 9 ((f_ 0 9) + (nI 1)) f_)))
  else
    (some (Sum.inr f_))
noncomputable def p_X7_step_B201 (f_ : Mem) (s0 : Int32) : Option (Mem ⊕ Mem) :=
  some (Sum.inl (mset 0 9 ((f_ 0 9) + (nI 1)) (mset 0 12 s0 f_)))
noncomputable def p_X7_step_L140  (f_ : Mem) : Option (Mem ⊕ Mem) :=
  Option.bind (p_X7_byteAt f_ (f_ 0 9)) <| fun r145 =>
  Option.bind (p_X7_in ((r145).toInt64) (48 : Int64) (57 : Int64)) <| fun r155 =>
  if r155 = 0 then
    (some (Sum.inr f_))
  else
    (if (nI 2) ≤ ((f_ 0 9) - (f_ 0 10)) then
       (p_X7_step_B201 f_ (f_ 0 12))
     else
       (Option.bind (p_X7_byteAt f_ (f_ 0 9)) <| fun r187 =>
        p_X7_step_B201 f_ ((((nI 10) * (f_ 0 12)) + r187) - (nI 48))))
noncomputable def p_X7_step_L84  (f_ : Mem) : Option (Mem ⊕ Mem) :=
  Option.bind (p_X7_byteAt f_ (f_ 0 9)) <| fun r89 =>
  Option.bind (p_X7_in ((r89).toInt64) (97 : Int64) (122 : Int64)) <| fun r99 =>
  if r99 = 0 then
    (some (Sum.inr f_))
  else
    (some (Sum.inl (mset 0 9 ((f_ 0 9) + (nI 1)) f_)))
noncomputable def p_X7_step (f : Mem) : Option (Mem) :=
  if (f 0 7) ≤ 0 then
    (Option.bind (lp (p_X7_step_L8) f) <| fun f_8 =>
     Option.bind (p_X7_byteAt (mset 0 10 (f_8 0 9) f_8) (f_8 0 9)) <| fun r47 =>
     if r47 = (-4 : Int32) then
       (some (mset 0 11 (nI 0) (mset 0 12 (nI 0) (mset 0 10 (f_8 0 9) f_8))))
     else
       (Option.bind (p_X7_in ((r47).toInt64) (97 : Int64) (122 : Int64)) <| fun r78 =>
        if r78 = 0 then
          (Option.bind (p_X7_in ((r47).toInt64) (48 : Int64) (57 : Int64)) <| fun r134 =>
           if r134 = 0 then
             (if r47 = (nI 59) then
                (some (mset 0 9 ((f_8 0 9) + (nI 1)) (mset 0 11 (nI 3) (mset 0 12 (nI 0) (mset 0 10 (f_8 0 9) f_8)))))
              else
                (Option.bind (p_X7_fails (mset 0 9 ((f_8 0 9) + (nI 1)) (mset 0 11 (nI 3) (mset 0 12 (nI 0) (mset 0 10 (f_8 0 9) f_8)))) (nI 1)) <| fun f_266 =>
                 some f_266))
           else
             (Option.bind (lp (p_X7_step_L140) (mset 0 12 (nI 0) (mset 0 10 (f_8 0 9) f_8))) <| fun f_140 =>
              if ((f_140 0 9) - (f_140 0 10)) ≤ (nI 2) then
                (some (mset 0 11 (nI 2) f_140))
              else
                (Option.bind (p_X7_fails (mset 0 11 (nI 2) f_140) (nI 1)) <| fun f_237 =>
                 some f_237)))
        else
          (Option.bind (lp (p_X7_step_L84) (mset 0 12 (nI 0) (mset 0 10 (f_8 0 9) f_8))) <| fun f_84 =>
           some (mset 0 11 (nI 1) f_84))))
  else
    (some f)
set_option maxHeartbeats 4000000 in
set_option maxRecDepth 100000 in
theorem c_X7_step (l : Launch) (G : Gt) (ad : Nat → Nat) (f : Mem) (fz : Mem) (hf : p_X7_step f = some fz) (sz : Nat) : Met l yX7_step wsX7_step ({ frames := 2, cells := 0, slots := 0, locals := 37 }) (Pc0 G sz [.ref (ad 0)] (wX7 G ad f)) (Qv0 G (va_A (wX7 G ad f) sz) (wX7 G ad fz)) 0 0 (va_A (wX7 G ad f) sz) := by
  refine metP (Qf := fun A => Qv0 G A (wX7 G ad fz)) cX7_step 2 (none) (by decide) rfl (Nat.le_of_ble_eq_true rfl) ?_
  intro p e s m below meth c A ls hC hr hlocks hin hE hA hsz hP hD hS hl
  generalize hargs : ([.ref (ad 0)] : List Value).toArray = args at hC ⊢
  obtain ⟨hx, hb, hml, hown, hts⟩ := id hC
  have hT : va_K G.1 vwCl (tyL G) s := hE.1
  have hRet : ∀ (f9 : Mem) (H : Heap) (locs : List Loc) (ls : Array Slot) (pc : Nat) (hK9 : f9 = fz) (hdg : decode cX7_step pc = .ok (.return_, 1)), va_P G.1 vwCl (wX7 G ad f9) H → va_D A (wX7 G ad f9) → va_S A s.heap H locs → W p l e ({ frames := 2, cells := 0, slots := 0, locals := 37 }) s m args below meth c H locs 0 0 (MQ below (Qv0 G A (wX7 G ad fz)) args s 0 0 A) (F0 m pc ls []) := by
    intro f9 H locs ls pc hK9 hdg hP hD hS
    cases hK9
    exact W.vret hx hb hr (fun t ht hW => ⟨⟨(), rfl, trivial, by rw [ht]; exact hP, hD⟩, hS.F ht⟩) hS.2.2 hdg hlocks
  generalize MQ below (Qv0 G A (wX7 G ad fz)) args s 0 0 A = Q at hRet ⊢
  have lk54 := hts (.fieldLink RX7 54 "FeatherSharesModel" "broken" "I") (by decide +kernel)
  have inX7 : ∀ w ∈ u_ws RX7 TX7 34, w ∈ wsX7_step := by decide +kernel
  have lk66 := hts (.fieldLink RX7 66 "FeatherSharesModel" "spot" "I") (by decide +kernel)
  have lk57 := hts (.fieldLink RX7 57 "FeatherSharesModel" "here" "I") (by decide +kernel)
  have lk73 := hts (.fieldLink RX7 73 "FeatherSharesModel" "value" "I") (by decide +kernel)
  have lk63 := hts (.fieldLink RX7 63 "FeatherSharesModel" "token" "I") (by decide +kernel)
  have hl : lv_has ls 2 [(0, .ref (ad 0))] := hl
  have hK0 : fz = fz := rfl
  obtain ⟨res, hres, hK⟩ : ∃ res, p_X7_step f = some res ∧ res = fz := ⟨_, hf, rfl⟩
  clear hf
  have hf := hres
  clear hres
  unfold p_X7_step at hf
  refine lv_aload_n hx hb dX7_step_0 rfl (lv_at hl 0 rfl) ?_
  refine va_get (C := RX7) (T := TX7) (N := 34) (ci := 7) (v := .int (f 0 7)) hx hb hts inX7 hown hT hP 0 rfl rfl 10 (Nat.le_of_ble_eq_true rfl) lk54 (fun _ h => h) rfl dX7_step_1 ?_
  refine lv_if_le (tgt := 8) hx hb dX7_step_4 (by decide) (fun hc => ?_) (fun hc => ?_)
  · have hf := if_t hf hc
    obtain ⟨f_8, hlp, hf⟩ := bd_e hf
    refine lp_W1 (p_X7_step_L8) (fun (f_ : Mem) => ∀ (H : Heap) (locs : List Loc) (ls : Array Slot), va_P G.1 vwCl (wX7 G ad f_) H → va_D A (wX7 G ad f_) → va_S A s.heap H locs → lv_has ls 2 [(0, .ref (ad 0))] → W p l e ({ frames := 2, cells := 0, slots := 0, locals := 37 }) s m args below meth c H locs 0 0 Q (F0 m 8 ls [])) (fun (f_8 : Mem) => ∀ (H : Heap) (locs : List Loc) (ls : Array Slot), va_P G.1 vwCl (wX7 G ad f_8) H → va_D A (wX7 G ad f_8) → va_S A s.heap H locs → lv_has ls 2 [(0, .ref (ad 0))] → W p l e ({ frames := 2, cells := 0, slots := 0, locals := 37 }) s m args below meth c H locs 0 0 Q (F0 m 34 ls [])) ?_ hlp ?_ _ _ _ hP hD hS (lv_sub hl [0] rfl)
    · clear hlp hf hK hP hD hS hl
      intro K8 hW8 hX8 
      rintro f_ res hf hK H locs ls hP hD hS hl
      unfold p_X7_step_L8 at hf
      refine lv_aload_n hx hb dX7_step_8 rfl (lv_at hl 0 rfl) ?_
      refine lv_aload_n hx hb dX7_step_9 rfl (lv_at hl 0 rfl) ?_
      refine va_get (C := RX7) (T := TX7) (N := 34) (ci := 7) (v := .int (f_ 0 9)) hx hb hts inX7 hown hT hP 0 rfl rfl 12 (Nat.le_of_ble_eq_true rfl) lk66 (fun _ h => h) rfl dX7_step_10 ?_
      obtain ⟨r13, hc13, hf⟩ := bd_e hf
      refine cl_i_same (Wd := (wX7 G ad f_)) (W' := (wX7 G ad f_)) (va_runV (As := [.int (f_ 0 9)]) (rest := []) hC (c_X7_byteAt l G ad f_ (f_ 0 9) r13 hc13 _) (cwV 1 hts gX7_step_X7_byteAt rfl rfl rfl (by decide +kernel) ⟨Nat.le_of_ble_eq_true rfl, Nat.le_of_ble_eq_true rfl⟩) ⟨Pc0_blind, va_recv hT hP (q0 := 0) (ci := 7) rfl rfl, fun U hU hW => Pc0_at hE hP hD hU hW⟩ rfl rfl hl.1 rfl (lv_room (Nat.le_of_ble_eq_true rfl)) dX7_step_13 ⟨Nat.zero_le _, Nat.zero_le _⟩) hS hA hD (fun H locs hP hD hS => ?_)
      refine lv_bipush (v := (nI 32)) hx hb dX7_step_16 (bi_32) ?_
      refine lv_icmp_ne (tgt := 34) hx hb dX7_step_18 (by decide) (fun hc => ?_) (fun hc => ?_)
      · have hf := if_f hf hc
        have hK9 := K_of hf hK
        have hK9 := hX8 _ hK9
        exact hK9 _ _ _ hP hD hS (lv_sub hl [0] rfl)
      · have hf := if_t hf hc
        refine lv_aload_n hx hb dX7_step_21 rfl (lv_at hl 0 rfl) ?_
        refine lv_dup hx hb dX7_step_22 rfl ?_
        refine va_get (C := RX7) (T := TX7) (N := 34) (ci := 7) (v := .int (f_ 0 9)) hx hb hts inX7 hown hT hP 0 rfl rfl 12 (Nat.le_of_ble_eq_true rfl) lk66 (fun _ h => h) rfl dX7_step_23 ?_
        refine lv_iconst (v := (nI 1)) hx hb dX7_step_26 (ic_1) ?_
        refine lv_iadd hx hb dX7_step_27 ?_
        refine va_put (C := RX7) (T := TX7) (N := 34) (ci := 7) (ty := .int) (v := .int ((f_ 0 9) + (nI 1))) hx hb hts inX7 tyX7 tyX7_ok nmX7 hown hT hP hD hS 0 rfl rfl 12 (Nat.le_of_ble_eq_true rfl) lk66 (fun _ h => h) rfl (by decide +kernel) rfl rfl (Nat.le_of_ble_eq_true rfl) dX7_step_28 (fun H locs hP hD hS => ?_)
        have hP : va_P G.1 vwCl (wX7 G ad (mset 0 9 ((f_ 0 9) + (nI 1)) f_)) H := hP
        have hD : va_D A (wX7 G ad (mset 0 9 ((f_ 0 9) + (nI 1)) f_)) := hD
        refine lv_goto (tgt := 8) hx hb dX7_step_31 (by decide) ?_
        have hK9 := K_of hf hK
        have hK9 := hW8 _ hK9
        exact hK9 _ _ _ hP hD hS (lv_sub hl [0] rfl)
    · try dsimp only at hf
      show ∀ (H : Heap) (locs : List Loc) (ls : Array Slot), va_P G.1 vwCl (wX7 G ad f_8) H → va_D A (wX7 G ad f_8) → va_S A s.heap H locs → lv_has ls 2 [(0, .ref (ad 0))] → W p l e ({ frames := 2, cells := 0, slots := 0, locals := 37 }) s m args below meth c H locs 0 0 Q (F0 m 34 ls [])
      intro H locs ls hP hD hS hl
      refine lv_aload_n hx hb dX7_step_34 rfl (lv_at hl 0 rfl) ?_
      refine lv_aload_n hx hb dX7_step_35 rfl (lv_at hl 0 rfl) ?_
      refine va_get (C := RX7) (T := TX7) (N := 34) (ci := 7) (v := .int (f_8 0 9)) hx hb hts inX7 hown hT hP 0 rfl rfl 12 (Nat.le_of_ble_eq_true rfl) lk66 (fun _ h => h) rfl dX7_step_36 ?_
      refine va_put (C := RX7) (T := TX7) (N := 34) (ci := 7) (ty := .int) (v := .int (f_8 0 9)) hx hb hts inX7 tyX7 tyX7_ok nmX7 hown hT hP hD hS 0 rfl rfl 13 (Nat.le_of_ble_eq_true rfl) lk57 (fun _ h => h) rfl (by decide +kernel) rfl rfl (Nat.le_of_ble_eq_true rfl) dX7_step_39 (fun H locs hP hD hS => ?_)
      have hP : va_P G.1 vwCl (wX7 G ad (mset 0 10 (f_8 0 9) f_8)) H := hP
      have hD : va_D A (wX7 G ad (mset 0 10 (f_8 0 9) f_8)) := hD
      refine lv_aload_n hx hb dX7_step_42 rfl (lv_at hl 0 rfl) ?_
      refine lv_aload_n hx hb dX7_step_43 rfl (lv_at hl 0 rfl) ?_
      refine va_get (C := RX7) (T := TX7) (N := 34) (ci := 7) (v := .int (f_8 0 9)) hx hb hts inX7 hown hT hP 0 rfl rfl 12 (Nat.le_of_ble_eq_true rfl) lk66 (fun _ h => h) rfl dX7_step_44 ?_
      obtain ⟨r47, hc47, hf⟩ := bd_e hf
      refine cl_i_same (Wd := (wX7 G ad (mset 0 10 (f_8 0 9) f_8))) (W' := (wX7 G ad (mset 0 10 (f_8 0 9) f_8))) (va_runV (As := [.int (f_8 0 9)]) (rest := []) hC (c_X7_byteAt l G ad (mset 0 10 (f_8 0 9) f_8) (f_8 0 9) r47 hc47 _) (cwV 1 hts gX7_step_X7_byteAt rfl rfl rfl (by decide +kernel) ⟨Nat.le_of_ble_eq_true rfl, Nat.le_of_ble_eq_true rfl⟩) ⟨Pc0_blind, va_recv hT hP (q0 := 0) (ci := 7) rfl rfl, fun U hU hW => Pc0_at hE hP hD hU hW⟩ rfl rfl hl.1 rfl (lv_room (Nat.le_of_ble_eq_true rfl)) dX7_step_47 ⟨Nat.zero_le _, Nat.zero_le _⟩) hS hA hD (fun H locs hP hD hS => ?_)
      refine lv_istore_n (lv' := [(1, .int r47), (0, .ref (ad 0))]) hx hb dX7_step_50 rfl hl (by decide) rfl (fun ls hl => ?_)
      refine lv_aload_n hx hb dX7_step_51 rfl (lv_at hl 1 rfl) ?_
      refine lv_iconst (v := (nI 0)) hx hb dX7_step_52 (ic_0) ?_
      refine va_put (C := RX7) (T := TX7) (N := 34) (ci := 7) (ty := .int) (v := .int (nI 0)) hx hb hts inX7 tyX7 tyX7_ok nmX7 hown hT hP hD hS 0 rfl rfl 15 (Nat.le_of_ble_eq_true rfl) lk73 (fun _ h => h) rfl (by decide +kernel) rfl rfl (Nat.le_of_ble_eq_true rfl) dX7_step_53 (fun H locs hP hD hS => ?_)
      have hP : va_P G.1 vwCl (wX7 G ad (mset 0 12 (nI 0) (mset 0 10 (f_8 0 9) f_8))) H := hP
      have hD : va_D A (wX7 G ad (mset 0 12 (nI 0) (mset 0 10 (f_8 0 9) f_8))) := hD
      refine lv_iload_n hx hb dX7_step_56 rfl (lv_at hl 0 rfl) ?_
      refine lv_bipush (v := (-4 : Int32)) hx hb dX7_step_57 (bi_m4) ?_
      refine lv_icmp_ne (tgt := 70) hx hb dX7_step_59 (by decide) (fun hc => ?_) (fun hc => ?_)
      · have hf := if_f hf hc
        refine lv_iload_n hx hb dX7_step_70 rfl (lv_at hl 0 rfl) ?_
        refine lv_i2l (v := ((r47).toInt64)) hx hb dX7_step_71 rfl ?_
        refine W.ldc2 (v := (97 : Int64)) hx hb hown (hts (.constantLong RX7 76 (97 : Int64)) (by decide +kernel)) rfl dX7_step_72 ?_
        refine W.eq (g2 := F0 m 75 ls [.long (97 : Int64), .long ((r47).toInt64)]) rfl ?_
        refine W.ldc2 (v := (122 : Int64)) hx hb hown (hts (.constantLong RX7 78 (122 : Int64)) (by decide +kernel)) rfl dX7_step_75 ?_
        refine W.eq (g2 := F0 m 78 ls [.long (122 : Int64), .long (97 : Int64), .long ((r47).toInt64)]) rfl ?_
        obtain ⟨r78, hc78, hf⟩ := bd_e hf
        refine cl_z_ro (Wd := (wX7 G ad (mset 0 12 (nI 0) (mset 0 10 (f_8 0 9) f_8)))) (Wc := ([] : va_W)) [] rfl (va_runS (As := [.long ((r47).toInt64), .long (97 : Int64), .long (122 : Int64)]) (rest := []) hC (c_X7_in l G ((r47).toInt64) (97 : Int64) (122 : Int64) r78 hc78 _) (va_cwS 3 hts gX7_step_X7_in rfl rfl rfl (by decide +kernel) ⟨Nat.le_of_ble_eq_true rfl, Nat.le_of_ble_eq_true rfl⟩) ⟨Pc0_blind, fun U hU hW => Pc0_at (Wd := ([] : va_W)) hE (hP.subm [] rfl) (hD.sub [] (by decide) rfl) hU hW⟩ rfl rfl hl.1 rfl (lv_room (Nat.le_of_ble_eq_true rfl)) dX7_step_78 ⟨Nat.zero_le _, Nat.zero_le _⟩) hS hA hP hD (fun H locs hn78 hP hD hS => ?_)
        refine lv_if_eq (tgt := 126) hx hb dX7_step_81 (by decide) (fun hc => ?_) (fun hc => ?_)
        · have hf := if_t hf hc
          refine lv_iload_n hx hb dX7_step_126 rfl (lv_at hl 0 rfl) ?_
          refine lv_i2l (v := ((r47).toInt64)) hx hb dX7_step_127 rfl ?_
          refine W.ldc2 (v := (48 : Int64)) hx hb hown (hts (.constantLong RX7 80 (48 : Int64)) (by decide +kernel)) rfl dX7_step_128 ?_
          refine W.eq (g2 := F0 m 131 ls [.long (48 : Int64), .long ((r47).toInt64)]) rfl ?_
          refine W.ldc2 (v := (57 : Int64)) hx hb hown (hts (.constantLong RX7 82 (57 : Int64)) (by decide +kernel)) rfl dX7_step_131 ?_
          refine W.eq (g2 := F0 m 134 ls [.long (57 : Int64), .long (48 : Int64), .long ((r47).toInt64)]) rfl ?_
          obtain ⟨r134, hc134, hf⟩ := bd_e hf
          refine cl_z_ro (Wd := (wX7 G ad (mset 0 12 (nI 0) (mset 0 10 (f_8 0 9) f_8)))) (Wc := ([] : va_W)) [] rfl (va_runS (As := [.long ((r47).toInt64), .long (48 : Int64), .long (57 : Int64)]) (rest := []) hC (c_X7_in l G ((r47).toInt64) (48 : Int64) (57 : Int64) r134 hc134 _) (va_cwS 3 hts gX7_step_X7_in rfl rfl rfl (by decide +kernel) ⟨Nat.le_of_ble_eq_true rfl, Nat.le_of_ble_eq_true rfl⟩) ⟨Pc0_blind, fun U hU hW => Pc0_at (Wd := ([] : va_W)) hE (hP.subm [] rfl) (hD.sub [] (by decide) rfl) hU hW⟩ rfl rfl hl.1 rfl (lv_room (Nat.le_of_ble_eq_true rfl)) dX7_step_134 ⟨Nat.zero_le _, Nat.zero_le _⟩) hS hA hP hD (fun H locs hn134 hP hD hS => ?_)
          refine lv_if_eq (tgt := 243) hx hb dX7_step_137 (by decide) (fun hc => ?_) (fun hc => ?_)
          · have hf := if_t hf hc
            refine lv_aload_n hx hb dX7_step_243 rfl (lv_at hl 1 rfl) ?_
            refine lv_iconst (v := (nI 3)) hx hb dX7_step_244 (ic_3) ?_
            refine va_put (C := RX7) (T := TX7) (N := 34) (ci := 7) (ty := .int) (v := .int (nI 3)) hx hb hts inX7 tyX7 tyX7_ok nmX7 hown hT hP hD hS 0 rfl rfl 14 (Nat.le_of_ble_eq_true rfl) lk63 (fun _ h => h) rfl (by decide +kernel) rfl rfl (Nat.le_of_ble_eq_true rfl) dX7_step_245 (fun H locs hP hD hS => ?_)
            have hP : va_P G.1 vwCl (wX7 G ad (mset 0 11 (nI 3) (mset 0 12 (nI 0) (mset 0 10 (f_8 0 9) f_8)))) H := hP
            have hD : va_D A (wX7 G ad (mset 0 11 (nI 3) (mset 0 12 (nI 0) (mset 0 10 (f_8 0 9) f_8)))) := hD
            refine lv_aload_n hx hb dX7_step_248 rfl (lv_at hl 1 rfl) ?_
            refine lv_dup hx hb dX7_step_249 rfl ?_
            refine va_get (C := RX7) (T := TX7) (N := 34) (ci := 7) (v := .int (f_8 0 9)) hx hb hts inX7 hown hT hP 0 rfl rfl 12 (Nat.le_of_ble_eq_true rfl) lk66 (fun _ h => h) rfl dX7_step_250 ?_
            refine lv_iconst (v := (nI 1)) hx hb dX7_step_253 (ic_1) ?_
            refine lv_iadd hx hb dX7_step_254 ?_
            refine va_put (C := RX7) (T := TX7) (N := 34) (ci := 7) (ty := .int) (v := .int ((f_8 0 9) + (nI 1))) hx hb hts inX7 tyX7 tyX7_ok nmX7 hown hT hP hD hS 0 rfl rfl 12 (Nat.le_of_ble_eq_true rfl) lk66 (fun _ h => h) rfl (by decide +kernel) rfl rfl (Nat.le_of_ble_eq_true rfl) dX7_step_255 (fun H locs hP hD hS => ?_)
            have hP : va_P G.1 vwCl (wX7 G ad (mset 0 9 ((f_8 0 9) + (nI 1)) (mset 0 11 (nI 3) (mset 0 12 (nI 0) (mset 0 10 (f_8 0 9) f_8))))) H := hP
            have hD : va_D A (wX7 G ad (mset 0 9 ((f_8 0 9) + (nI 1)) (mset 0 11 (nI 3) (mset 0 12 (nI 0) (mset 0 10 (f_8 0 9) f_8))))) := hD
            refine lv_iload_n hx hb dX7_step_258 rfl (lv_at hl 0 rfl) ?_
            refine lv_bipush (v := (nI 59)) hx hb dX7_step_259 (bi_59) ?_
            refine lv_icmp_eq (tgt := 269) hx hb dX7_step_261 (by decide) (fun hc => ?_) (fun hc => ?_)
            · have hf := if_t hf hc
              have hK9 := K0_of hf hK
              exact hRet (mset 0 9 ((f_8 0 9) + (nI 1)) (mset 0 11 (nI 3) (mset 0 12 (nI 0) (mset 0 10 (f_8 0 9) f_8)))) _ _ _ _ hK9 dX7_step_269 hP hD hS
            · have hf := if_f hf hc
              refine lv_aload_n hx hb dX7_step_264 rfl (lv_at hl 1 rfl) ?_
              refine lv_iconst (v := (nI 1)) hx hb dX7_step_265 (ic_1) ?_
              obtain ⟨f_266, hc266, hf⟩ := bd_e hf
              refine cl_v_same (Wd := (wX7 G ad (mset 0 9 ((f_8 0 9) + (nI 1)) (mset 0 11 (nI 3) (mset 0 12 (nI 0) (mset 0 10 (f_8 0 9) f_8)))))) (W' := (wX7 G ad f_266)) (va_runV (As := [.int (nI 1)]) (rest := []) hC (c_X7_fails l G ad (mset 0 9 ((f_8 0 9) + (nI 1)) (mset 0 11 (nI 3) (mset 0 12 (nI 0) (mset 0 10 (f_8 0 9) f_8)))) (nI 1) f_266 hc266 _) (cwV 1 hts gX7_step_X7_fails rfl rfl rfl (by decide +kernel) ⟨Nat.le_of_ble_eq_true rfl, Nat.le_of_ble_eq_true rfl⟩) ⟨Pc0_blind, va_recv hT hP (q0 := 0) (ci := 7) rfl rfl, fun U hU hW => Pc0_at hE hP hD hU hW⟩ rfl rfl hl.1 rfl (lv_room (Nat.le_of_ble_eq_true rfl)) dX7_step_266 ⟨Nat.zero_le _, Nat.zero_le _⟩) hS hA hD (fun H locs hP hD hS => ?_)
              have hK9 := K0_of hf hK
              exact hRet f_266 _ _ _ _ hK9 dX7_step_269 hP hD hS
          · have hf := if_f hf hc
            obtain ⟨f_140, hlp, hf⟩ := bd_e hf
            refine lp_W1 (p_X7_step_L140) (fun (f_ : Mem) => ∀ (H : Heap) (locs : List Loc) (ls : Array Slot), va_P G.1 vwCl (wX7 G ad f_) H → va_D A (wX7 G ad f_) → va_S A s.heap H locs → lv_has ls 2 [(0, .ref (ad 0))] → W p l e ({ frames := 2, cells := 0, slots := 0, locals := 37 }) s m args below meth c H locs 0 0 Q (F0 m 140 ls [])) (fun (f_140 : Mem) => ∀ (H : Heap) (locs : List Loc) (ls : Array Slot), va_P G.1 vwCl (wX7 G ad f_140) H → va_D A (wX7 G ad f_140) → va_S A s.heap H locs → lv_has ls 2 [(0, .ref (ad 0))] → W p l e ({ frames := 2, cells := 0, slots := 0, locals := 37 }) s m args below meth c H locs 0 0 Q (F0 m 217 ls [])) ?_ hlp ?_ _ _ _ hP hD hS (lv_sub hl [1] rfl)
            · clear hlp hf hK hP hD hS hl
              intro K140 hW140 hX140 
              have hB201 : ∀ (f_ : Mem) (s0 : Int32) (res : Mem ⊕ Mem) (hf : p_X7_step_B201 f_ s0 = some res) (hK : K140 res), ∀ (H : Heap) (locs : List Loc) (ls : Array Slot), va_P G.1 vwCl (wX7 G ad f_) H → va_D A (wX7 G ad f_) → va_S A s.heap H locs → lv_has ls 2 [(0, .ref (ad 0))] → W p l e ({ frames := 2, cells := 0, slots := 0, locals := 37 }) s m args below meth c H locs 0 0 Q (F0 m 201 ls [.int s0, .ref (ad 0)]) := by
                intro f_ s0 res hf hK H locs ls hP hD hS hl
                unfold p_X7_step_B201 at hf
                refine va_put (C := RX7) (T := TX7) (N := 34) (ci := 7) (ty := .int) (v := .int s0) hx hb hts inX7 tyX7 tyX7_ok nmX7 hown hT hP hD hS 0 rfl rfl 15 (Nat.le_of_ble_eq_true rfl) lk73 (fun _ h => h) rfl (by decide +kernel) rfl rfl (Nat.le_of_ble_eq_true rfl) dX7_step_201 (fun H locs hP hD hS => ?_)
                have hP : va_P G.1 vwCl (wX7 G ad (mset 0 12 s0 f_)) H := hP
                have hD : va_D A (wX7 G ad (mset 0 12 s0 f_)) := hD
                refine lv_aload_n hx hb dX7_step_204 rfl (lv_at hl 0 rfl) ?_
                refine lv_dup hx hb dX7_step_205 rfl ?_
                refine va_get (C := RX7) (T := TX7) (N := 34) (ci := 7) (v := .int (f_ 0 9)) hx hb hts inX7 hown hT hP 0 rfl rfl 12 (Nat.le_of_ble_eq_true rfl) lk66 (fun _ h => h) rfl dX7_step_206 ?_
                refine lv_iconst (v := (nI 1)) hx hb dX7_step_209 (ic_1) ?_
                refine lv_iadd hx hb dX7_step_210 ?_
                refine va_put (C := RX7) (T := TX7) (N := 34) (ci := 7) (ty := .int) (v := .int ((f_ 0 9) + (nI 1))) hx hb hts inX7 tyX7 tyX7_ok nmX7 hown hT hP hD hS 0 rfl rfl 12 (Nat.le_of_ble_eq_true rfl) lk66 (fun _ h => h) rfl (by decide +kernel) rfl rfl (Nat.le_of_ble_eq_true rfl) dX7_step_211 (fun H locs hP hD hS => ?_)
                have hP : va_P G.1 vwCl (wX7 G ad (mset 0 9 ((f_ 0 9) + (nI 1)) (mset 0 12 s0 f_))) H := hP
                have hD : va_D A (wX7 G ad (mset 0 9 ((f_ 0 9) + (nI 1)) (mset 0 12 s0 f_))) := hD
                refine lv_goto (tgt := 140) hx hb dX7_step_214 (by decide) ?_
                have hK9 := K_of hf hK
                have hK9 := hW140 _ hK9
                exact hK9 _ _ _ hP hD hS (lv_sub hl [0] rfl)
              rintro f_ res hf hK H locs ls hP hD hS hl
              unfold p_X7_step_L140 at hf
              refine lv_aload_n hx hb dX7_step_140 rfl (lv_at hl 0 rfl) ?_
              refine lv_aload_n hx hb dX7_step_141 rfl (lv_at hl 0 rfl) ?_
              refine va_get (C := RX7) (T := TX7) (N := 34) (ci := 7) (v := .int (f_ 0 9)) hx hb hts inX7 hown hT hP 0 rfl rfl 12 (Nat.le_of_ble_eq_true rfl) lk66 (fun _ h => h) rfl dX7_step_142 ?_
              obtain ⟨r145, hc145, hf⟩ := bd_e hf
              refine cl_i_same (Wd := (wX7 G ad f_)) (W' := (wX7 G ad f_)) (va_runV (As := [.int (f_ 0 9)]) (rest := []) hC (c_X7_byteAt l G ad f_ (f_ 0 9) r145 hc145 _) (cwV 1 hts gX7_step_X7_byteAt rfl rfl rfl (by decide +kernel) ⟨Nat.le_of_ble_eq_true rfl, Nat.le_of_ble_eq_true rfl⟩) ⟨Pc0_blind, va_recv hT hP (q0 := 0) (ci := 7) rfl rfl, fun U hU hW => Pc0_at hE hP hD hU hW⟩ rfl rfl hl.1 rfl (lv_room (Nat.le_of_ble_eq_true rfl)) dX7_step_145 ⟨Nat.zero_le _, Nat.zero_le _⟩) hS hA hD (fun H locs hP hD hS => ?_)
              refine lv_i2l (v := ((r145).toInt64)) hx hb dX7_step_148 rfl ?_
              refine W.ldc2 (v := (48 : Int64)) hx hb hown (hts (.constantLong RX7 80 (48 : Int64)) (by decide +kernel)) rfl dX7_step_149 ?_
              refine W.eq (g2 := F0 m 152 ls [.long (48 : Int64), .long ((r145).toInt64)]) rfl ?_
              refine W.ldc2 (v := (57 : Int64)) hx hb hown (hts (.constantLong RX7 82 (57 : Int64)) (by decide +kernel)) rfl dX7_step_152 ?_
              refine W.eq (g2 := F0 m 155 ls [.long (57 : Int64), .long (48 : Int64), .long ((r145).toInt64)]) rfl ?_
              obtain ⟨r155, hc155, hf⟩ := bd_e hf
              refine cl_z_ro (Wd := (wX7 G ad f_)) (Wc := ([] : va_W)) [] rfl (va_runS (As := [.long ((r145).toInt64), .long (48 : Int64), .long (57 : Int64)]) (rest := []) hC (c_X7_in l G ((r145).toInt64) (48 : Int64) (57 : Int64) r155 hc155 _) (va_cwS 3 hts gX7_step_X7_in rfl rfl rfl (by decide +kernel) ⟨Nat.le_of_ble_eq_true rfl, Nat.le_of_ble_eq_true rfl⟩) ⟨Pc0_blind, fun U hU hW => Pc0_at (Wd := ([] : va_W)) hE (hP.subm [] rfl) (hD.sub [] (by decide) rfl) hU hW⟩ rfl rfl hl.1 rfl (lv_room (Nat.le_of_ble_eq_true rfl)) dX7_step_155 ⟨Nat.zero_le _, Nat.zero_le _⟩) hS hA hP hD (fun H locs hn155 hP hD hS => ?_)
              refine lv_if_eq (tgt := 217) hx hb dX7_step_158 (by decide) (fun hc => ?_) (fun hc => ?_)
              · have hf := if_t hf hc
                have hK9 := K_of hf hK
                have hK9 := hX140 _ hK9
                exact hK9 _ _ _ hP hD hS (lv_sub hl [0] rfl)
              · have hf := if_f hf hc
                refine lv_aload_n hx hb dX7_step_161 rfl (lv_at hl 0 rfl) ?_
                refine lv_aload_n hx hb dX7_step_162 rfl (lv_at hl 0 rfl) ?_
                refine va_get (C := RX7) (T := TX7) (N := 34) (ci := 7) (v := .int (f_ 0 9)) hx hb hts inX7 hown hT hP 0 rfl rfl 12 (Nat.le_of_ble_eq_true rfl) lk66 (fun _ h => h) rfl dX7_step_163 ?_
                refine lv_aload_n hx hb dX7_step_166 rfl (lv_at hl 0 rfl) ?_
                refine va_get (C := RX7) (T := TX7) (N := 34) (ci := 7) (v := .int (f_ 0 10)) hx hb hts inX7 hown hT hP 0 rfl rfl 13 (Nat.le_of_ble_eq_true rfl) lk57 (fun _ h => h) rfl dX7_step_167 ?_
                refine lv_isub hx hb dX7_step_170 ?_
                refine lv_iconst (v := (nI 2)) hx hb dX7_step_171 (ic_2) ?_
                refine lv_icmp_ge (tgt := 197) hx hb dX7_step_172 (by decide) (fun hc => ?_) (fun hc => ?_)
                · have hf := if_t hf hc
                  refine lv_aload_n hx hb dX7_step_197 rfl (lv_at hl 0 rfl) ?_
                  refine va_get (C := RX7) (T := TX7) (N := 34) (ci := 7) (v := .int (f_ 0 12)) hx hb hts inX7 hown hT hP 0 rfl rfl 15 (Nat.le_of_ble_eq_true rfl) lk73 (fun _ h => h) rfl dX7_step_198 ?_
                  exact hB201 f_ (f_ 0 12) _ hf hK _ _ _ hP hD hS (lv_sub hl [0] rfl)
                · have hf := if_f hf hc
                  refine lv_bipush (v := (nI 10)) hx hb dX7_step_175 (bi_10) ?_
                  refine lv_aload_n hx hb dX7_step_177 rfl (lv_at hl 0 rfl) ?_
                  refine va_get (C := RX7) (T := TX7) (N := 34) (ci := 7) (v := .int (f_ 0 12)) hx hb hts inX7 hown hT hP 0 rfl rfl 15 (Nat.le_of_ble_eq_true rfl) lk73 (fun _ h => h) rfl dX7_step_178 ?_
                  refine lv_imul hx hb dX7_step_181 ?_
                  refine lv_aload_n hx hb dX7_step_182 rfl (lv_at hl 0 rfl) ?_
                  refine lv_aload_n hx hb dX7_step_183 rfl (lv_at hl 0 rfl) ?_
                  refine va_get (C := RX7) (T := TX7) (N := 34) (ci := 7) (v := .int (f_ 0 9)) hx hb hts inX7 hown hT hP 0 rfl rfl 12 (Nat.le_of_ble_eq_true rfl) lk66 (fun _ h => h) rfl dX7_step_184 ?_
                  obtain ⟨r187, hc187, hf⟩ := bd_e hf
                  refine cl_i_same (Wd := (wX7 G ad f_)) (W' := (wX7 G ad f_)) (va_runV (As := [.int (f_ 0 9)]) (rest := [.int ((nI 10) * (f_ 0 12)), .ref (ad 0)]) hC (c_X7_byteAt l G ad f_ (f_ 0 9) r187 hc187 _) (cwV 1 hts gX7_step_X7_byteAt rfl rfl rfl (by decide +kernel) ⟨Nat.le_of_ble_eq_true rfl, Nat.le_of_ble_eq_true rfl⟩) ⟨Pc0_blind, va_recv hT hP (q0 := 0) (ci := 7) rfl rfl, fun U hU hW => Pc0_at hE hP hD hU hW⟩ rfl rfl hl.1 rfl (lv_room (Nat.le_of_ble_eq_true rfl)) dX7_step_187 ⟨Nat.zero_le _, Nat.zero_le _⟩) hS hA hD (fun H locs hP hD hS => ?_)
                  refine lv_iadd hx hb dX7_step_190 ?_
                  refine lv_bipush (v := (nI 48)) hx hb dX7_step_191 (bi_48) ?_
                  refine lv_isub hx hb dX7_step_193 ?_
                  refine lv_goto (tgt := 201) hx hb dX7_step_194 (by decide) ?_
                  exact hB201 f_ ((((nI 10) * (f_ 0 12)) + r187) - (nI 48)) _ hf hK _ _ _ hP hD hS (lv_sub hl [0] rfl)
            · try dsimp only at hf
              show ∀ (H : Heap) (locs : List Loc) (ls : Array Slot), va_P G.1 vwCl (wX7 G ad f_140) H → va_D A (wX7 G ad f_140) → va_S A s.heap H locs → lv_has ls 2 [(0, .ref (ad 0))] → W p l e ({ frames := 2, cells := 0, slots := 0, locals := 37 }) s m args below meth c H locs 0 0 Q (F0 m 217 ls [])
              intro H locs ls hP hD hS hl
              refine lv_aload_n hx hb dX7_step_217 rfl (lv_at hl 0 rfl) ?_
              refine lv_iconst (v := (nI 2)) hx hb dX7_step_218 (ic_2) ?_
              refine va_put (C := RX7) (T := TX7) (N := 34) (ci := 7) (ty := .int) (v := .int (nI 2)) hx hb hts inX7 tyX7 tyX7_ok nmX7 hown hT hP hD hS 0 rfl rfl 14 (Nat.le_of_ble_eq_true rfl) lk63 (fun _ h => h) rfl (by decide +kernel) rfl rfl (Nat.le_of_ble_eq_true rfl) dX7_step_219 (fun H locs hP hD hS => ?_)
              have hP : va_P G.1 vwCl (wX7 G ad (mset 0 11 (nI 2) f_140)) H := hP
              have hD : va_D A (wX7 G ad (mset 0 11 (nI 2) f_140)) := hD
              refine lv_aload_n hx hb dX7_step_222 rfl (lv_at hl 0 rfl) ?_
              refine va_get (C := RX7) (T := TX7) (N := 34) (ci := 7) (v := .int (f_140 0 9)) hx hb hts inX7 hown hT hP 0 rfl rfl 12 (Nat.le_of_ble_eq_true rfl) lk66 (fun _ h => h) rfl dX7_step_223 ?_
              refine lv_aload_n hx hb dX7_step_226 rfl (lv_at hl 0 rfl) ?_
              refine va_get (C := RX7) (T := TX7) (N := 34) (ci := 7) (v := .int (f_140 0 10)) hx hb hts inX7 hown hT hP 0 rfl rfl 13 (Nat.le_of_ble_eq_true rfl) lk57 (fun _ h => h) rfl dX7_step_227 ?_
              refine lv_isub hx hb dX7_step_230 ?_
              refine lv_iconst (v := (nI 2)) hx hb dX7_step_231 (ic_2) ?_
              refine lv_icmp_le (tgt := 269) hx hb dX7_step_232 (by decide) (fun hc => ?_) (fun hc => ?_)
              · have hf := if_t hf hc
                have hK9 := K0_of hf hK
                exact hRet (mset 0 11 (nI 2) f_140) _ _ _ _ hK9 dX7_step_269 hP hD hS
              · have hf := if_f hf hc
                refine lv_aload_n hx hb dX7_step_235 rfl (lv_at hl 0 rfl) ?_
                refine lv_iconst (v := (nI 1)) hx hb dX7_step_236 (ic_1) ?_
                obtain ⟨f_237, hc237, hf⟩ := bd_e hf
                refine cl_v_same (Wd := (wX7 G ad (mset 0 11 (nI 2) f_140))) (W' := (wX7 G ad f_237)) (va_runV (As := [.int (nI 1)]) (rest := []) hC (c_X7_fails l G ad (mset 0 11 (nI 2) f_140) (nI 1) f_237 hc237 _) (cwV 1 hts gX7_step_X7_fails rfl rfl rfl (by decide +kernel) ⟨Nat.le_of_ble_eq_true rfl, Nat.le_of_ble_eq_true rfl⟩) ⟨Pc0_blind, va_recv hT hP (q0 := 0) (ci := 7) rfl rfl, fun U hU hW => Pc0_at hE hP hD hU hW⟩ rfl rfl hl.1 rfl (lv_room (Nat.le_of_ble_eq_true rfl)) dX7_step_237 ⟨Nat.zero_le _, Nat.zero_le _⟩) hS hA hD (fun H locs hP hD hS => ?_)
                refine lv_goto (tgt := 269) hx hb dX7_step_240 (by decide) ?_
                have hK9 := K0_of hf hK
                exact hRet f_237 _ _ _ _ hK9 dX7_step_269 hP hD hS
        · have hf := if_f hf hc
          obtain ⟨f_84, hlp, hf⟩ := bd_e hf
          refine lp_W1 (p_X7_step_L84) (fun (f_ : Mem) => ∀ (H : Heap) (locs : List Loc) (ls : Array Slot), va_P G.1 vwCl (wX7 G ad f_) H → va_D A (wX7 G ad f_) → va_S A s.heap H locs → lv_has ls 2 [(0, .ref (ad 0))] → W p l e ({ frames := 2, cells := 0, slots := 0, locals := 37 }) s m args below meth c H locs 0 0 Q (F0 m 84 ls [])) (fun (f_84 : Mem) => ∀ (H : Heap) (locs : List Loc) (ls : Array Slot), va_P G.1 vwCl (wX7 G ad f_84) H → va_D A (wX7 G ad f_84) → va_S A s.heap H locs → lv_has ls 2 [(0, .ref (ad 0))] → W p l e ({ frames := 2, cells := 0, slots := 0, locals := 37 }) s m args below meth c H locs 0 0 Q (F0 m 118 ls [])) ?_ hlp ?_ _ _ _ hP hD hS (lv_sub hl [1] rfl)
          · clear hlp hf hK hP hD hS hl
            intro K84 hW84 hX84 
            rintro f_ res hf hK H locs ls hP hD hS hl
            unfold p_X7_step_L84 at hf
            refine lv_aload_n hx hb dX7_step_84 rfl (lv_at hl 0 rfl) ?_
            refine lv_aload_n hx hb dX7_step_85 rfl (lv_at hl 0 rfl) ?_
            refine va_get (C := RX7) (T := TX7) (N := 34) (ci := 7) (v := .int (f_ 0 9)) hx hb hts inX7 hown hT hP 0 rfl rfl 12 (Nat.le_of_ble_eq_true rfl) lk66 (fun _ h => h) rfl dX7_step_86 ?_
            obtain ⟨r89, hc89, hf⟩ := bd_e hf
            refine cl_i_same (Wd := (wX7 G ad f_)) (W' := (wX7 G ad f_)) (va_runV (As := [.int (f_ 0 9)]) (rest := []) hC (c_X7_byteAt l G ad f_ (f_ 0 9) r89 hc89 _) (cwV 1 hts gX7_step_X7_byteAt rfl rfl rfl (by decide +kernel) ⟨Nat.le_of_ble_eq_true rfl, Nat.le_of_ble_eq_true rfl⟩) ⟨Pc0_blind, va_recv hT hP (q0 := 0) (ci := 7) rfl rfl, fun U hU hW => Pc0_at hE hP hD hU hW⟩ rfl rfl hl.1 rfl (lv_room (Nat.le_of_ble_eq_true rfl)) dX7_step_89 ⟨Nat.zero_le _, Nat.zero_le _⟩) hS hA hD (fun H locs hP hD hS => ?_)
            refine lv_i2l (v := ((r89).toInt64)) hx hb dX7_step_92 rfl ?_
            refine W.ldc2 (v := (97 : Int64)) hx hb hown (hts (.constantLong RX7 76 (97 : Int64)) (by decide +kernel)) rfl dX7_step_93 ?_
            refine W.eq (g2 := F0 m 96 ls [.long (97 : Int64), .long ((r89).toInt64)]) rfl ?_
            refine W.ldc2 (v := (122 : Int64)) hx hb hown (hts (.constantLong RX7 78 (122 : Int64)) (by decide +kernel)) rfl dX7_step_96 ?_
            refine W.eq (g2 := F0 m 99 ls [.long (122 : Int64), .long (97 : Int64), .long ((r89).toInt64)]) rfl ?_
            obtain ⟨r99, hc99, hf⟩ := bd_e hf
            refine cl_z_ro (Wd := (wX7 G ad f_)) (Wc := ([] : va_W)) [] rfl (va_runS (As := [.long ((r89).toInt64), .long (97 : Int64), .long (122 : Int64)]) (rest := []) hC (c_X7_in l G ((r89).toInt64) (97 : Int64) (122 : Int64) r99 hc99 _) (va_cwS 3 hts gX7_step_X7_in rfl rfl rfl (by decide +kernel) ⟨Nat.le_of_ble_eq_true rfl, Nat.le_of_ble_eq_true rfl⟩) ⟨Pc0_blind, fun U hU hW => Pc0_at (Wd := ([] : va_W)) hE (hP.subm [] rfl) (hD.sub [] (by decide) rfl) hU hW⟩ rfl rfl hl.1 rfl (lv_room (Nat.le_of_ble_eq_true rfl)) dX7_step_99 ⟨Nat.zero_le _, Nat.zero_le _⟩) hS hA hP hD (fun H locs hn99 hP hD hS => ?_)
            refine lv_if_eq (tgt := 118) hx hb dX7_step_102 (by decide) (fun hc => ?_) (fun hc => ?_)
            · have hf := if_t hf hc
              have hK9 := K_of hf hK
              have hK9 := hX84 _ hK9
              exact hK9 _ _ _ hP hD hS (lv_sub hl [0] rfl)
            · have hf := if_f hf hc
              refine lv_aload_n hx hb dX7_step_105 rfl (lv_at hl 0 rfl) ?_
              refine lv_dup hx hb dX7_step_106 rfl ?_
              refine va_get (C := RX7) (T := TX7) (N := 34) (ci := 7) (v := .int (f_ 0 9)) hx hb hts inX7 hown hT hP 0 rfl rfl 12 (Nat.le_of_ble_eq_true rfl) lk66 (fun _ h => h) rfl dX7_step_107 ?_
              refine lv_iconst (v := (nI 1)) hx hb dX7_step_110 (ic_1) ?_
              refine lv_iadd hx hb dX7_step_111 ?_
              refine va_put (C := RX7) (T := TX7) (N := 34) (ci := 7) (ty := .int) (v := .int ((f_ 0 9) + (nI 1))) hx hb hts inX7 tyX7 tyX7_ok nmX7 hown hT hP hD hS 0 rfl rfl 12 (Nat.le_of_ble_eq_true rfl) lk66 (fun _ h => h) rfl (by decide +kernel) rfl rfl (Nat.le_of_ble_eq_true rfl) dX7_step_112 (fun H locs hP hD hS => ?_)
              have hP : va_P G.1 vwCl (wX7 G ad (mset 0 9 ((f_ 0 9) + (nI 1)) f_)) H := hP
              have hD : va_D A (wX7 G ad (mset 0 9 ((f_ 0 9) + (nI 1)) f_)) := hD
              refine lv_goto (tgt := 84) hx hb dX7_step_115 (by decide) ?_
              have hK9 := K_of hf hK
              have hK9 := hW84 _ hK9
              exact hK9 _ _ _ hP hD hS (lv_sub hl [0] rfl)
          · try dsimp only at hf
            show ∀ (H : Heap) (locs : List Loc) (ls : Array Slot), va_P G.1 vwCl (wX7 G ad f_84) H → va_D A (wX7 G ad f_84) → va_S A s.heap H locs → lv_has ls 2 [(0, .ref (ad 0))] → W p l e ({ frames := 2, cells := 0, slots := 0, locals := 37 }) s m args below meth c H locs 0 0 Q (F0 m 118 ls [])
            intro H locs ls hP hD hS hl
            refine lv_aload_n hx hb dX7_step_118 rfl (lv_at hl 0 rfl) ?_
            refine lv_iconst (v := (nI 1)) hx hb dX7_step_119 (ic_1) ?_
            refine va_put (C := RX7) (T := TX7) (N := 34) (ci := 7) (ty := .int) (v := .int (nI 1)) hx hb hts inX7 tyX7 tyX7_ok nmX7 hown hT hP hD hS 0 rfl rfl 14 (Nat.le_of_ble_eq_true rfl) lk63 (fun _ h => h) rfl (by decide +kernel) rfl rfl (Nat.le_of_ble_eq_true rfl) dX7_step_120 (fun H locs hP hD hS => ?_)
            have hP : va_P G.1 vwCl (wX7 G ad (mset 0 11 (nI 1) f_84)) H := hP
            have hD : va_D A (wX7 G ad (mset 0 11 (nI 1) f_84)) := hD
            refine lv_goto (tgt := 269) hx hb dX7_step_123 (by decide) ?_
            have hK9 := K0_of hf hK
            exact hRet (mset 0 11 (nI 1) f_84) _ _ _ _ hK9 dX7_step_269 hP hD hS
      · have hf := if_t hf hc
        refine lv_aload_n hx hb dX7_step_62 rfl (lv_at hl 1 rfl) ?_
        refine lv_iconst (v := (nI 0)) hx hb dX7_step_63 (ic_0) ?_
        refine va_put (C := RX7) (T := TX7) (N := 34) (ci := 7) (ty := .int) (v := .int (nI 0)) hx hb hts inX7 tyX7 tyX7_ok nmX7 hown hT hP hD hS 0 rfl rfl 14 (Nat.le_of_ble_eq_true rfl) lk63 (fun _ h => h) rfl (by decide +kernel) rfl rfl (Nat.le_of_ble_eq_true rfl) dX7_step_64 (fun H locs hP hD hS => ?_)
        have hP : va_P G.1 vwCl (wX7 G ad (mset 0 11 (nI 0) (mset 0 12 (nI 0) (mset 0 10 (f_8 0 9) f_8)))) H := hP
        have hD : va_D A (wX7 G ad (mset 0 11 (nI 0) (mset 0 12 (nI 0) (mset 0 10 (f_8 0 9) f_8)))) := hD
        refine lv_goto (tgt := 269) hx hb dX7_step_67 (by decide) ?_
        have hK9 := K0_of hf hK
        exact hRet (mset 0 11 (nI 0) (mset 0 12 (nI 0) (mset 0 10 (f_8 0 9) f_8))) _ _ _ _ hK9 dX7_step_269 hP hD hS
  · have hf := if_f hf hc
    have hK9 := K0_of hf hK
    exact hRet f _ _ _ _ hK9 dX7_step_7 hP hD hS
noncomputable def p_X7_other_B90 (f : Mem) (s0 : Int32) : Option (Int32 × Mem) :=
  Option.bind (p_X7_step f) <| fun f_93 =>
  some (s0, f_93)
noncomputable def p_X7_other_B75 (f : Mem) (x1 : Int32) : Option (Int32 × Mem) :=
  if (f 0 7) = 0 then
    (p_X7_other_B90 f (f 0 12))
  else
    (p_X7_other_B90 f x1)
noncomputable def p_X7_other_B47 (f : Mem) (x1 : Int32) (x3 : Int32) : Option (Int32 × Mem) :=
  if (f 0 7) = 0 then
    (if x3 = 0 then
       (p_X7_other_B75 f x1)
     else
       (if ((x3 >>> ((f 0 12) &&& 31)) &&& (nI 1)) = (nI 1) then
          (Option.bind (p_X7_fails f (nI 4)) <| fun f_72 =>
           p_X7_other_B75 f_72 x1)
        else
          (p_X7_other_B75 f x1)))
  else
    (p_X7_other_B75 f x1)
noncomputable def p_X7_other_B20 (f : Mem) (x1 : Int32) (x2 : Int32) (x3 : Int32) : Option (Int32 × Mem) :=
  if (f 0 7) = 0 then
    (Option.bind (p_X7_in ((f 0 12).toInt64) ((x1).toInt64) ((x2).toInt64)) <| fun r36 =>
     if r36 = 0 then
       (Option.bind (p_X7_fails f (nI 3)) <| fun f_44 =>
        p_X7_other_B47 f_44 x1 x3)
     else
       (p_X7_other_B47 f x1 x3))
  else
    (p_X7_other_B47 f x1 x3)
noncomputable def p_X7_other (f : Mem) (x1 : Int32) (x2 : Int32) (x3 : Int32) : Option (Int32 × Mem) :=
  if (f 0 7) = 0 then
    (if (f 0 11) = (nI 2) then
       (p_X7_other_B20 f x1 x2 x3)
     else
       (Option.bind (p_X7_fails f (nI 2)) <| fun f_17 =>
        p_X7_other_B20 f_17 x1 x2 x3))
  else
    (p_X7_other_B20 f x1 x2 x3)
set_option maxHeartbeats 4000000 in
set_option maxRecDepth 100000 in
theorem c_X7_other (l : Launch) (G : Gt) (ad : Nat → Nat) (f : Mem) (x1 : Int32) (x2 : Int32) (x3 : Int32) (r : Int32) (fz : Mem) (hf : p_X7_other f x1 x2 x3 = some (r, fz)) (sz : Nat) : Met l yX7_other wsX7_other ({ frames := 3, cells := 0, slots := 0, locals := 58 }) (Pc0 G sz [.ref (ad 0), .int x1, .int x2, .int x3] (wX7 G ad f)) (Qi0 G (va_A (wX7 G ad f) sz) r (wX7 G ad fz)) 0 0 (va_A (wX7 G ad f) sz) := by
  refine metP (Qf := fun A => Qi0 G A r (wX7 G ad fz)) cX7_other 5 (some .int) (by decide) rfl (Nat.le_of_ble_eq_true rfl) ?_
  intro p e s m below meth c A ls hC hr hlocks hin hE hA hsz hP hD hS hl
  generalize hargs : ([.ref (ad 0), .int x1, .int x2, .int x3] : List Value).toArray = args at hC ⊢
  obtain ⟨hx, hb, hml, hown, hts⟩ := id hC
  have hT : va_K G.1 vwCl (tyL G) s := hE.1
  have hRet : ∀ (r9 : Int32) (f9 : Mem) (H : Heap) (locs : List Loc) (ls : Array Slot) (pc : Nat) (hK9 : (r9, f9) = (r, fz)) (hdg : decode cX7_other pc = .ok (.ireturn, 1)), va_P G.1 vwCl (wX7 G ad f9) H → va_D A (wX7 G ad f9) → va_S A s.heap H locs → W p l e ({ frames := 3, cells := 0, slots := 0, locals := 58 }) s m args below meth c H locs 0 0 (MQ below (Qi0 G A r (wX7 G ad fz)) args s 0 0 A) (F0 m pc ls [.int r9]) := by
    intro r9 f9 H locs ls pc hK9 hdg hP hD hS
    cases hK9
    exact W.iret hx hb hr (fun t ht hW => ⟨⟨r, (), rfl, rfl, by rw [ht]; exact hP, hD⟩, hS.F ht⟩) hS.2.2 hdg hlocks
  generalize MQ below (Qi0 G A r (wX7 G ad fz)) args s 0 0 A = Q at hRet ⊢
  have lk54 := hts (.fieldLink RX7 54 "FeatherSharesModel" "broken" "I") (by decide +kernel)
  have inX7 : ∀ w ∈ u_ws RX7 TX7 34, w ∈ wsX7_other := by decide +kernel
  have lk73 := hts (.fieldLink RX7 73 "FeatherSharesModel" "value" "I") (by decide +kernel)
  have lk63 := hts (.fieldLink RX7 63 "FeatherSharesModel" "token" "I") (by decide +kernel)
  have hl : lv_has ls 5 [(0, .ref (ad 0)), (1, .int x1), (2, .int x2), (3, .int x3)] := hl
  have hK0 : (r, fz) = (r, fz) := rfl
  have hB90 : ∀ (f : Mem) (s0 : Int32) (res : Int32 × Mem) (hf : p_X7_other_B90 f s0 = some res) (hK : res = (r, fz)), ∀ (H : Heap) (locs : List Loc) (ls : Array Slot), va_P G.1 vwCl (wX7 G ad f) H → va_D A (wX7 G ad f) → va_S A s.heap H locs → lv_has ls 5 [(0, .ref (ad 0))] → W p l e ({ frames := 3, cells := 0, slots := 0, locals := 58 }) s m args below meth c H locs 0 0 Q (F0 m 90 ls [.int s0]) := by
    intro f s0 res hf hK H locs ls hP hD hS hl
    unfold p_X7_other_B90 at hf
    refine lv_istore (lv' := [(4, .int s0), (0, .ref (ad 0))]) hx hb dX7_other_90 hl (by decide) rfl (fun ls hl => ?_)
    refine lv_aload_n hx hb dX7_other_92 rfl (lv_at hl 1 rfl) ?_
    obtain ⟨f_93, hc93, hf⟩ := bd_e hf
    refine cl_v_same (Wd := (wX7 G ad f)) (W' := (wX7 G ad f_93)) (va_runV (As := []) (rest := []) hC (c_X7_step l G ad f f_93 hc93 _) (cwV 0 hts gX7_other_X7_step rfl rfl rfl (by decide +kernel) ⟨Nat.le_of_ble_eq_true rfl, Nat.le_of_ble_eq_true rfl⟩) ⟨Pc0_blind, va_recv hT hP (q0 := 0) (ci := 7) rfl rfl, fun U hU hW => Pc0_at hE hP hD hU hW⟩ rfl rfl hl.1 rfl (lv_room (Nat.le_of_ble_eq_true rfl)) dX7_other_93 ⟨Nat.zero_le _, Nat.zero_le _⟩) hS hA hD (fun H locs hP hD hS => ?_)
    refine lv_iload hx hb dX7_other_96 (lv_at hl 0 rfl) ?_
    have hK9 := K0_of hf hK
    exact hRet s0 f_93 _ _ _ _ hK9 dX7_other_98 hP hD hS
  have hB75 : ∀ (f : Mem) (x1 : Int32) (res : Int32 × Mem) (hf : p_X7_other_B75 f x1 = some res) (hK : res = (r, fz)), ∀ (H : Heap) (locs : List Loc) (ls : Array Slot), va_P G.1 vwCl (wX7 G ad f) H → va_D A (wX7 G ad f) → va_S A s.heap H locs → lv_has ls 5 [(0, .ref (ad 0)), (1, .int x1)] → W p l e ({ frames := 3, cells := 0, slots := 0, locals := 58 }) s m args below meth c H locs 0 0 Q (F0 m 75 ls []) := by
    intro f x1 res hf hK H locs ls hP hD hS hl
    unfold p_X7_other_B75 at hf
    refine lv_aload_n hx hb dX7_other_75 rfl (lv_at hl 0 rfl) ?_
    refine va_get (C := RX7) (T := TX7) (N := 34) (ci := 7) (v := .int (f 0 7)) hx hb hts inX7 hown hT hP 0 rfl rfl 10 (Nat.le_of_ble_eq_true rfl) lk54 (fun _ h => h) rfl dX7_other_76 ?_
    refine lv_if_ne (tgt := 89) hx hb dX7_other_79 (by decide) (fun hc => ?_) (fun hc => ?_)
    · have hf := if_f hf hc
      refine lv_iload_n hx hb dX7_other_89 rfl (lv_at hl 1 rfl) ?_
      exact hB90 f x1 _ hf hK _ _ _ hP hD hS (lv_sub hl [0] rfl)
    · have hf := if_t hf hc
      refine lv_aload_n hx hb dX7_other_82 rfl (lv_at hl 0 rfl) ?_
      refine va_get (C := RX7) (T := TX7) (N := 34) (ci := 7) (v := .int (f 0 12)) hx hb hts inX7 hown hT hP 0 rfl rfl 15 (Nat.le_of_ble_eq_true rfl) lk73 (fun _ h => h) rfl dX7_other_83 ?_
      refine lv_goto (tgt := 90) hx hb dX7_other_86 (by decide) ?_
      exact hB90 f (f 0 12) _ hf hK _ _ _ hP hD hS (lv_sub hl [0] rfl)
  have hB47 : ∀ (f : Mem) (x1 : Int32) (x3 : Int32) (res : Int32 × Mem) (hf : p_X7_other_B47 f x1 x3 = some res) (hK : res = (r, fz)), ∀ (H : Heap) (locs : List Loc) (ls : Array Slot), va_P G.1 vwCl (wX7 G ad f) H → va_D A (wX7 G ad f) → va_S A s.heap H locs → lv_has ls 5 [(0, .ref (ad 0)), (1, .int x1), (3, .int x3)] → W p l e ({ frames := 3, cells := 0, slots := 0, locals := 58 }) s m args below meth c H locs 0 0 Q (F0 m 47 ls []) := by
    intro f x1 x3 res hf hK H locs ls hP hD hS hl
    unfold p_X7_other_B47 at hf
    refine lv_aload_n hx hb dX7_other_47 rfl (lv_at hl 0 rfl) ?_
    refine va_get (C := RX7) (T := TX7) (N := 34) (ci := 7) (v := .int (f 0 7)) hx hb hts inX7 hown hT hP 0 rfl rfl 10 (Nat.le_of_ble_eq_true rfl) lk54 (fun _ h => h) rfl dX7_other_48 ?_
    refine lv_if_ne (tgt := 75) hx hb dX7_other_51 (by decide) (fun hc => ?_) (fun hc => ?_)
    · have hf := if_f hf hc
      exact hB75 f x1 _ hf hK _ _ _ hP hD hS (lv_sub hl [0, 1] rfl)
    · have hf := if_t hf hc
      refine lv_iload_n hx hb dX7_other_54 rfl (lv_at hl 2 rfl) ?_
      refine lv_if_eq (tgt := 75) hx hb dX7_other_55 (by decide) (fun hc => ?_) (fun hc => ?_)
      · have hf := if_t hf hc
        exact hB75 f x1 _ hf hK _ _ _ hP hD hS (lv_sub hl [0, 1] rfl)
      · have hf := if_f hf hc
        refine lv_iload_n hx hb dX7_other_58 rfl (lv_at hl 2 rfl) ?_
        refine lv_aload_n hx hb dX7_other_59 rfl (lv_at hl 0 rfl) ?_
        refine va_get (C := RX7) (T := TX7) (N := 34) (ci := 7) (v := .int (f 0 12)) hx hb hts inX7 hown hT hP 0 rfl rfl 15 (Nat.le_of_ble_eq_true rfl) lk73 (fun _ h => h) rfl dX7_other_60 ?_
        refine lv_ishr hx hb dX7_other_63 ?_
        refine lv_iconst (v := (nI 1)) hx hb dX7_other_64 (ic_1) ?_
        refine lv_iand hx hb dX7_other_65 ?_
        refine lv_iconst (v := (nI 1)) hx hb dX7_other_66 (ic_1) ?_
        refine lv_icmp_ne (tgt := 75) hx hb dX7_other_67 (by decide) (fun hc => ?_) (fun hc => ?_)
        · have hf := if_f hf hc
          exact hB75 f x1 _ hf hK _ _ _ hP hD hS (lv_sub hl [0, 1] rfl)
        · have hf := if_t hf hc
          refine lv_aload_n hx hb dX7_other_70 rfl (lv_at hl 0 rfl) ?_
          refine lv_iconst (v := (nI 4)) hx hb dX7_other_71 (ic_4) ?_
          obtain ⟨f_72, hc72, hf⟩ := bd_e hf
          refine cl_v_same (Wd := (wX7 G ad f)) (W' := (wX7 G ad f_72)) (va_runV (As := [.int (nI 4)]) (rest := []) hC (c_X7_fails l G ad f (nI 4) f_72 hc72 _) (cwV 1 hts gX7_other_X7_fails rfl rfl rfl (by decide +kernel) ⟨Nat.le_of_ble_eq_true rfl, Nat.le_of_ble_eq_true rfl⟩) ⟨Pc0_blind, va_recv hT hP (q0 := 0) (ci := 7) rfl rfl, fun U hU hW => Pc0_at hE hP hD hU hW⟩ rfl rfl hl.1 rfl (lv_room (Nat.le_of_ble_eq_true rfl)) dX7_other_72 ⟨Nat.zero_le _, Nat.zero_le _⟩) hS hA hD (fun H locs hP hD hS => ?_)
          exact hB75 f_72 x1 _ hf hK _ _ _ hP hD hS (lv_sub hl [0, 1] rfl)
  have hB20 : ∀ (f : Mem) (x1 : Int32) (x2 : Int32) (x3 : Int32) (res : Int32 × Mem) (hf : p_X7_other_B20 f x1 x2 x3 = some res) (hK : res = (r, fz)), ∀ (H : Heap) (locs : List Loc) (ls : Array Slot), va_P G.1 vwCl (wX7 G ad f) H → va_D A (wX7 G ad f) → va_S A s.heap H locs → lv_has ls 5 [(0, .ref (ad 0)), (1, .int x1), (2, .int x2), (3, .int x3)] → W p l e ({ frames := 3, cells := 0, slots := 0, locals := 58 }) s m args below meth c H locs 0 0 Q (F0 m 20 ls []) := by
    intro f x1 x2 x3 res hf hK H locs ls hP hD hS hl
    unfold p_X7_other_B20 at hf
    refine lv_aload_n hx hb dX7_other_20 rfl (lv_at hl 0 rfl) ?_
    refine va_get (C := RX7) (T := TX7) (N := 34) (ci := 7) (v := .int (f 0 7)) hx hb hts inX7 hown hT hP 0 rfl rfl 10 (Nat.le_of_ble_eq_true rfl) lk54 (fun _ h => h) rfl dX7_other_21 ?_
    refine lv_if_ne (tgt := 47) hx hb dX7_other_24 (by decide) (fun hc => ?_) (fun hc => ?_)
    · have hf := if_f hf hc
      exact hB47 f x1 x3 _ hf hK _ _ _ hP hD hS (lv_sub hl [0, 1, 3] rfl)
    · have hf := if_t hf hc
      refine lv_aload_n hx hb dX7_other_27 rfl (lv_at hl 0 rfl) ?_
      refine va_get (C := RX7) (T := TX7) (N := 34) (ci := 7) (v := .int (f 0 12)) hx hb hts inX7 hown hT hP 0 rfl rfl 15 (Nat.le_of_ble_eq_true rfl) lk73 (fun _ h => h) rfl dX7_other_28 ?_
      refine lv_i2l (v := ((f 0 12).toInt64)) hx hb dX7_other_31 rfl ?_
      refine lv_iload_n hx hb dX7_other_32 rfl (lv_at hl 1 rfl) ?_
      refine lv_i2l (v := ((x1).toInt64)) hx hb dX7_other_33 rfl ?_
      refine lv_iload_n hx hb dX7_other_34 rfl (lv_at hl 2 rfl) ?_
      refine lv_i2l (v := ((x2).toInt64)) hx hb dX7_other_35 rfl ?_
      obtain ⟨r36, hc36, hf⟩ := bd_e hf
      refine cl_z_ro (Wd := (wX7 G ad f)) (Wc := ([] : va_W)) [] rfl (va_runS (As := [.long ((f 0 12).toInt64), .long ((x1).toInt64), .long ((x2).toInt64)]) (rest := []) hC (c_X7_in l G ((f 0 12).toInt64) ((x1).toInt64) ((x2).toInt64) r36 hc36 _) (va_cwS 3 hts gX7_other_X7_in rfl rfl rfl (by decide +kernel) ⟨Nat.le_of_ble_eq_true rfl, Nat.le_of_ble_eq_true rfl⟩) ⟨Pc0_blind, fun U hU hW => Pc0_at (Wd := ([] : va_W)) hE (hP.subm [] rfl) (hD.sub [] (by decide) rfl) hU hW⟩ rfl rfl hl.1 rfl (lv_room (Nat.le_of_ble_eq_true rfl)) dX7_other_36 ⟨Nat.zero_le _, Nat.zero_le _⟩) hS hA hP hD (fun H locs hn36 hP hD hS => ?_)
      refine lv_if_ne (tgt := 47) hx hb dX7_other_39 (by decide) (fun hc => ?_) (fun hc => ?_)
      · have hf := if_f hf hc
        exact hB47 f x1 x3 _ hf hK _ _ _ hP hD hS (lv_sub hl [0, 1, 3] rfl)
      · have hf := if_t hf hc
        refine lv_aload_n hx hb dX7_other_42 rfl (lv_at hl 0 rfl) ?_
        refine lv_iconst (v := (nI 3)) hx hb dX7_other_43 (ic_3) ?_
        obtain ⟨f_44, hc44, hf⟩ := bd_e hf
        refine cl_v_same (Wd := (wX7 G ad f)) (W' := (wX7 G ad f_44)) (va_runV (As := [.int (nI 3)]) (rest := []) hC (c_X7_fails l G ad f (nI 3) f_44 hc44 _) (cwV 1 hts gX7_other_X7_fails rfl rfl rfl (by decide +kernel) ⟨Nat.le_of_ble_eq_true rfl, Nat.le_of_ble_eq_true rfl⟩) ⟨Pc0_blind, va_recv hT hP (q0 := 0) (ci := 7) rfl rfl, fun U hU hW => Pc0_at hE hP hD hU hW⟩ rfl rfl hl.1 rfl (lv_room (Nat.le_of_ble_eq_true rfl)) dX7_other_44 ⟨Nat.zero_le _, Nat.zero_le _⟩) hS hA hD (fun H locs hP hD hS => ?_)
        exact hB47 f_44 x1 x3 _ hf hK _ _ _ hP hD hS (lv_sub hl [0, 1, 3] rfl)
  obtain ⟨res, hres, hK⟩ : ∃ res, p_X7_other f x1 x2 x3 = some res ∧ res = (r, fz) := ⟨_, hf, rfl⟩
  clear hf
  have hf := hres
  clear hres
  unfold p_X7_other at hf
  refine lv_aload_n hx hb dX7_other_0 rfl (lv_at hl 0 rfl) ?_
  refine va_get (C := RX7) (T := TX7) (N := 34) (ci := 7) (v := .int (f 0 7)) hx hb hts inX7 hown hT hP 0 rfl rfl 10 (Nat.le_of_ble_eq_true rfl) lk54 (fun _ h => h) rfl dX7_other_1 ?_
  refine lv_if_ne (tgt := 20) hx hb dX7_other_4 (by decide) (fun hc => ?_) (fun hc => ?_)
  · have hf := if_f hf hc
    exact hB20 f x1 x2 x3 _ hf hK _ _ _ hP hD hS (lv_sub hl [0, 1, 2, 3] rfl)
  · have hf := if_t hf hc
    refine lv_aload_n hx hb dX7_other_7 rfl (lv_at hl 0 rfl) ?_
    refine va_get (C := RX7) (T := TX7) (N := 34) (ci := 7) (v := .int (f 0 11)) hx hb hts inX7 hown hT hP 0 rfl rfl 14 (Nat.le_of_ble_eq_true rfl) lk63 (fun _ h => h) rfl dX7_other_8 ?_
    refine lv_iconst (v := (nI 2)) hx hb dX7_other_11 (ic_2) ?_
    refine lv_icmp_eq (tgt := 20) hx hb dX7_other_12 (by decide) (fun hc => ?_) (fun hc => ?_)
    · have hf := if_t hf hc
      exact hB20 f x1 x2 x3 _ hf hK _ _ _ hP hD hS (lv_sub hl [0, 1, 2, 3] rfl)
    · have hf := if_f hf hc
      refine lv_aload_n hx hb dX7_other_15 rfl (lv_at hl 0 rfl) ?_
      refine lv_iconst (v := (nI 2)) hx hb dX7_other_16 (ic_2) ?_
      obtain ⟨f_17, hc17, hf⟩ := bd_e hf
      refine cl_v_same (Wd := (wX7 G ad f)) (W' := (wX7 G ad f_17)) (va_runV (As := [.int (nI 2)]) (rest := []) hC (c_X7_fails l G ad f (nI 2) f_17 hc17 _) (cwV 1 hts gX7_other_X7_fails rfl rfl rfl (by decide +kernel) ⟨Nat.le_of_ble_eq_true rfl, Nat.le_of_ble_eq_true rfl⟩) ⟨Pc0_blind, va_recv hT hP (q0 := 0) (ci := 7) rfl rfl, fun U hU hW => Pc0_at hE hP hD hU hW⟩ rfl rfl hl.1 rfl (lv_room (Nat.le_of_ble_eq_true rfl)) dX7_other_17 ⟨Nat.zero_le _, Nat.zero_le _⟩) hS hA hD (fun H locs hP hD hS => ?_)
      exact hB20 f_17 x1 x2 x3 _ hf hK _ _ _ hP hD hS (lv_sub hl [0, 1, 2, 3] rfl)
noncomputable def p_X7_gooseHere_B25 (f : Mem) (x1 : Int32) (s0 : Int32) : Option (Int32 × Mem) :=
  some (x1, (mset 0 4 s0 f))
noncomputable def p_X7_gooseHere (f : Mem) : Option (Int32 × Mem) :=
  Option.bind (p_X7_other f (nI 0) (nI 2) (nI 0)) <| fun (r4, f_4) =>
  if r4 ≤ (f_4 0 4) then
    (p_X7_gooseHere_B25 f_4 r4 (f_4 0 4))
  else
    (p_X7_gooseHere_B25 f_4 r4 r4)
set_option maxHeartbeats 4000000 in
set_option maxRecDepth 100000 in
theorem c_X7_gooseHere (l : Launch) (G : Gt) (ad : Nat → Nat) (f : Mem) (r : Int32) (fz : Mem) (hf : p_X7_gooseHere f = some (r, fz)) (sz : Nat) : Met l yX7_gooseHere wsX7_gooseHere ({ frames := 4, cells := 0, slots := 0, locals := 82 }) (Pc0 G sz [.ref (ad 0)] (wX7 G ad f)) (Qi0 G (va_A (wX7 G ad f) sz) r (wX7 G ad fz)) 0 0 (va_A (wX7 G ad f) sz) := by
  refine metP (Qf := fun A => Qi0 G A r (wX7 G ad fz)) cX7_gooseHere 2 (some .int) (by decide) rfl (Nat.le_of_ble_eq_true rfl) ?_
  intro p e s m below meth c A ls hC hr hlocks hin hE hA hsz hP hD hS hl
  generalize hargs : ([.ref (ad 0)] : List Value).toArray = args at hC ⊢
  obtain ⟨hx, hb, hml, hown, hts⟩ := id hC
  have hT : va_K G.1 vwCl (tyL G) s := hE.1
  have hRet : ∀ (r9 : Int32) (f9 : Mem) (H : Heap) (locs : List Loc) (ls : Array Slot) (pc : Nat) (hK9 : (r9, f9) = (r, fz)) (hdg : decode cX7_gooseHere pc = .ok (.ireturn, 1)), va_P G.1 vwCl (wX7 G ad f9) H → va_D A (wX7 G ad f9) → va_S A s.heap H locs → W p l e ({ frames := 4, cells := 0, slots := 0, locals := 82 }) s m args below meth c H locs 0 0 (MQ below (Qi0 G A r (wX7 G ad fz)) args s 0 0 A) (F0 m pc ls [.int r9]) := by
    intro r9 f9 H locs ls pc hK9 hdg hP hD hS
    cases hK9
    exact W.iret hx hb hr (fun t ht hW => ⟨⟨r, (), rfl, rfl, by rw [ht]; exact hP, hD⟩, hS.F ht⟩) hS.2.2 hdg hlocks
  generalize MQ below (Qi0 G A r (wX7 G ad fz)) args s 0 0 A = Q at hRet ⊢
  have lk95 := hts (.fieldLink RX7 95 "FeatherSharesModel" "high" "I") (by decide +kernel)
  have inX7 : ∀ w ∈ u_ws RX7 TX7 34, w ∈ wsX7_gooseHere := by decide +kernel
  have hl : lv_has ls 2 [(0, .ref (ad 0))] := hl
  have hK0 : (r, fz) = (r, fz) := rfl
  have hB25 : ∀ (f : Mem) (x1 : Int32) (s0 : Int32) (res : Int32 × Mem) (hf : p_X7_gooseHere_B25 f x1 s0 = some res) (hK : res = (r, fz)), ∀ (H : Heap) (locs : List Loc) (ls : Array Slot), va_P G.1 vwCl (wX7 G ad f) H → va_D A (wX7 G ad f) → va_S A s.heap H locs → lv_has ls 2 [(1, .int x1)] → W p l e ({ frames := 4, cells := 0, slots := 0, locals := 82 }) s m args below meth c H locs 0 0 Q (F0 m 25 ls [.int s0, .ref (ad 0)]) := by
    intro f x1 s0 res hf hK H locs ls hP hD hS hl
    unfold p_X7_gooseHere_B25 at hf
    refine va_put (C := RX7) (T := TX7) (N := 34) (ci := 7) (ty := .int) (v := .int s0) hx hb hts inX7 tyX7 tyX7_ok nmX7 hown hT hP hD hS 0 rfl rfl 6 (Nat.le_of_ble_eq_true rfl) lk95 (fun _ h => h) rfl (by decide +kernel) rfl rfl (Nat.le_of_ble_eq_true rfl) dX7_gooseHere_25 (fun H locs hP hD hS => ?_)
    have hP : va_P G.1 vwCl (wX7 G ad (mset 0 4 s0 f)) H := hP
    have hD : va_D A (wX7 G ad (mset 0 4 s0 f)) := hD
    refine lv_iload_n hx hb dX7_gooseHere_28 rfl (lv_at hl 0 rfl) ?_
    have hK9 := K0_of hf hK
    exact hRet x1 (mset 0 4 s0 f) _ _ _ _ hK9 dX7_gooseHere_29 hP hD hS
  obtain ⟨res, hres, hK⟩ : ∃ res, p_X7_gooseHere f = some res ∧ res = (r, fz) := ⟨_, hf, rfl⟩
  clear hf
  have hf := hres
  clear hres
  unfold p_X7_gooseHere at hf
  refine lv_aload_n hx hb dX7_gooseHere_0 rfl (lv_at hl 0 rfl) ?_
  refine lv_iconst (v := (nI 0)) hx hb dX7_gooseHere_1 (ic_0) ?_
  refine lv_iconst (v := (nI 2)) hx hb dX7_gooseHere_2 (ic_2) ?_
  refine lv_iconst (v := (nI 0)) hx hb dX7_gooseHere_3 (ic_0) ?_
  obtain ⟨⟨r4, f_4⟩, hc4, hf⟩ := bd_e hf
  try dsimp only at hf
  refine cl_i_same (Wd := (wX7 G ad f)) (W' := (wX7 G ad f_4)) (va_runV (As := [.int (nI 0), .int (nI 2), .int (nI 0)]) (rest := []) hC (c_X7_other l G ad f (nI 0) (nI 2) (nI 0) r4 f_4 hc4 _) (cwV 3 hts gX7_gooseHere_X7_other rfl rfl rfl (by decide +kernel) ⟨Nat.le_of_ble_eq_true rfl, Nat.le_of_ble_eq_true rfl⟩) ⟨Pc0_blind, va_recv hT hP (q0 := 0) (ci := 7) rfl rfl, fun U hU hW => Pc0_at hE hP hD hU hW⟩ rfl rfl hl.1 rfl (lv_room (Nat.le_of_ble_eq_true rfl)) dX7_gooseHere_4 ⟨Nat.zero_le _, Nat.zero_le _⟩) hS hA hD (fun H locs hP hD hS => ?_)
  refine lv_istore_n (lv' := [(1, .int r4), (0, .ref (ad 0))]) hx hb dX7_gooseHere_7 rfl hl (by decide) rfl (fun ls hl => ?_)
  refine lv_aload_n hx hb dX7_gooseHere_8 rfl (lv_at hl 1 rfl) ?_
  refine lv_iload_n hx hb dX7_gooseHere_9 rfl (lv_at hl 0 rfl) ?_
  refine lv_aload_n hx hb dX7_gooseHere_10 rfl (lv_at hl 1 rfl) ?_
  refine va_get (C := RX7) (T := TX7) (N := 34) (ci := 7) (v := .int (f_4 0 4)) hx hb hts inX7 hown hT hP 0 rfl rfl 6 (Nat.le_of_ble_eq_true rfl) lk95 (fun _ h => h) rfl dX7_gooseHere_11 ?_
  refine lv_icmp_le (tgt := 21) hx hb dX7_gooseHere_14 (by decide) (fun hc => ?_) (fun hc => ?_)
  · have hf := if_t hf hc
    refine lv_aload_n hx hb dX7_gooseHere_21 rfl (lv_at hl 1 rfl) ?_
    refine va_get (C := RX7) (T := TX7) (N := 34) (ci := 7) (v := .int (f_4 0 4)) hx hb hts inX7 hown hT hP 0 rfl rfl 6 (Nat.le_of_ble_eq_true rfl) lk95 (fun _ h => h) rfl dX7_gooseHere_22 ?_
    exact hB25 f_4 r4 (f_4 0 4) _ hf hK _ _ _ hP hD hS (lv_sub hl [0] rfl)
  · have hf := if_f hf hc
    refine lv_iload_n hx hb dX7_gooseHere_17 rfl (lv_at hl 0 rfl) ?_
    refine lv_goto (tgt := 25) hx hb dX7_gooseHere_18 (by decide) ?_
    exact hB25 f_4 r4 r4 _ hf hK _ _ _ hP hD hS (lv_sub hl [0] rfl)
noncomputable def p_X7_readTrade_B59 (f : Mem) (x1 : Int32) : Option (Mem) :=
  Option.bind (p_X7_other f (nI 0) (nI 4) (nI 0)) <| fun (r70, f_70) =>
  gd (inb (x1 + (nI 1)) 60) <|
  bnd (upd (f_70 2) (x1 + (nI 1)).toNatClampNeg r70) <| fun g73 =>
  Option.bind (p_X7_gooseHere (mrow 2 (g73) f_70)) <| fun (r82, f_82) =>
  gd (inb (x1 + (nI 2)) 60) <|
  bnd (upd (f_82 2) (x1 + (nI 2)).toNatClampNeg r82) <| fun g85 =>
  Option.bind (p_X7_other (mrow 2 (g85) f_82) (nI 1) (nI 9) (nI 0)) <| fun (r98, f_98) =>
  gd (inb (x1 + (nI 3)) 60) <|
  bnd (upd (f_98 2) (x1 + (nI 3)).toNatClampNeg r98) <| fun g101 =>
  gd (inb (nI 59) 60) <|
  gd (inb (nI 59) 60) <|
  bnd (upd (g101) (nI 59).toNatClampNeg ((g101 (nI 59).toNatClampNeg) + (nI 1))) <| fun g112 =>
  some (mrow 2 (g112) (mrow 2 (g101) f_98))
noncomputable def p_X7_readTrade (f : Mem) : Option (Mem) :=
  gd (inb (nI 59) 60) <|
  Option.bind (p_X7_other f (nI 0) (nI 4) (nI 0)) <| fun (r22, f_22) =>
  gd (inb ((nI 35) + ((nI 4) * (f 2 (nI 59).toNatClampNeg))) 60) <|
  bnd (upd (f_22 2) ((nI 35) + ((nI 4) * (f 2 (nI 59).toNatClampNeg))).toNatClampNeg r22) <| fun g25 =>
  if (f_22 0 7) = 0 then
    (if (f_22 0 11) = (nI 2) then
       (gd (inb ((nI 35) + ((nI 4) * (f 2 (nI 59).toNatClampNeg))) 60) <|
        if (f_22 0 12) = (g25 ((nI 35) + ((nI 4) * (f 2 (nI 59).toNatClampNeg))).toNatClampNeg) then
          (Option.bind (p_X7_fails (mrow 2 (g25) f_22) (nI 3)) <| fun f_56 =>
           p_X7_readTrade_B59 f_56 ((nI 35) + ((nI 4) * (f 2 (nI 59).toNatClampNeg))))
        else
          (p_X7_readTrade_B59 (mrow 2 (g25) f_22) ((nI 35) + ((nI 4) * (f 2 (nI 59).toNatClampNeg)))))
     else
       (p_X7_readTrade_B59 (mrow 2 (g25) f_22) ((nI 35) + ((nI 4) * (f 2 (nI 59).toNatClampNeg)))))
  else
    (p_X7_readTrade_B59 (mrow 2 (g25) f_22) ((nI 35) + ((nI 4) * (f 2 (nI 59).toNatClampNeg))))
set_option maxHeartbeats 4000000 in
set_option maxRecDepth 100000 in
theorem c_X7_readTrade (l : Launch) (G : Gt) (ad : Nat → Nat) (f : Mem) (fz : Mem) (hf : p_X7_readTrade f = some fz) (sz : Nat) : Met l yX7_readTrade wsX7_readTrade ({ frames := 5, cells := 0, slots := 0, locals := 103 }) (Pc0 G sz [.ref (ad 0)] (wX7 G ad f)) (Qv0 G (va_A (wX7 G ad f) sz) (wX7 G ad fz)) 0 0 (va_A (wX7 G ad f) sz) := by
  refine metP (Qf := fun A => Qv0 G A (wX7 G ad fz)) cX7_readTrade 2 (none) (by decide) rfl (Nat.le_of_ble_eq_true rfl) ?_
  intro p e s m below meth c A ls hC hr hlocks hin hE hA hsz hP hD hS hl
  generalize hargs : ([.ref (ad 0)] : List Value).toArray = args at hC ⊢
  obtain ⟨hx, hb, hml, hown, hts⟩ := id hC
  have hT : va_K G.1 vwCl (tyL G) s := hE.1
  have hRet : ∀ (f9 : Mem) (H : Heap) (locs : List Loc) (ls : Array Slot) (pc : Nat) (hK9 : f9 = fz) (hdg : decode cX7_readTrade pc = .ok (.return_, 1)), va_P G.1 vwCl (wX7 G ad f9) H → va_D A (wX7 G ad f9) → va_S A s.heap H locs → W p l e ({ frames := 5, cells := 0, slots := 0, locals := 103 }) s m args below meth c H locs 0 0 (MQ below (Qv0 G A (wX7 G ad fz)) args s 0 0 A) (F0 m pc ls []) := by
    intro f9 H locs ls pc hK9 hdg hP hD hS
    cases hK9
    exact W.vret hx hb hr (fun t ht hW => ⟨⟨(), rfl, trivial, by rw [ht]; exact hP, hD⟩, hS.F ht⟩) hS.2.2 hdg hlocks
  generalize MQ below (Qv0 G A (wX7 G ad fz)) args s 0 0 A = Q at hRet ⊢
  have lk13 := hts (.fieldLink RX7 13 "FeatherSharesModel" "readPage" "[I") (by decide +kernel)
  have inX7 : ∀ w ∈ u_ws RX7 TX7 34, w ∈ wsX7_readTrade := by decide +kernel
  have lk54 := hts (.fieldLink RX7 54 "FeatherSharesModel" "broken" "I") (by decide +kernel)
  have lk63 := hts (.fieldLink RX7 63 "FeatherSharesModel" "token" "I") (by decide +kernel)
  have lk73 := hts (.fieldLink RX7 73 "FeatherSharesModel" "value" "I") (by decide +kernel)
  have hl : lv_has ls 2 [(0, .ref (ad 0))] := hl
  have hK0 : fz = fz := rfl
  have hB59 : ∀ (f : Mem) (x1 : Int32) (res : Mem) (hf : p_X7_readTrade_B59 f x1 = some res) (hK : res = fz), ∀ (H : Heap) (locs : List Loc) (ls : Array Slot), va_P G.1 vwCl (wX7 G ad f) H → va_D A (wX7 G ad f) → va_S A s.heap H locs → lv_has ls 2 [(0, .ref (ad 0)), (1, .int x1)] → W p l e ({ frames := 5, cells := 0, slots := 0, locals := 103 }) s m args below meth c H locs 0 0 Q (F0 m 59 ls []) := by
    intro f x1 res hf hK H locs ls hP hD hS hl
    unfold p_X7_readTrade_B59 at hf
    refine lv_aload_n hx hb dX7_readTrade_59 rfl (lv_at hl 0 rfl) ?_
    refine va_get (C := RX7) (T := TX7) (N := 34) (ci := 7) (v := .ref (ad 2)) hx hb hts inX7 hown hT hP 0 rfl rfl 2 (Nat.le_of_ble_eq_true rfl) lk13 (fun _ h => h) rfl dX7_readTrade_60 ?_
    refine lv_iload_n hx hb dX7_readTrade_63 rfl (lv_at hl 1 rfl) ?_
    refine lv_iconst (v := (nI 1)) hx hb dX7_readTrade_64 (ic_1) ?_
    refine lv_iadd hx hb dX7_readTrade_65 ?_
    refine lv_aload_n hx hb dX7_readTrade_66 rfl (lv_at hl 0 rfl) ?_
    refine lv_iconst (v := (nI 0)) hx hb dX7_readTrade_67 (ic_0) ?_
    refine lv_iconst (v := (nI 4)) hx hb dX7_readTrade_68 (ic_4) ?_
    refine lv_iconst (v := (nI 0)) hx hb dX7_readTrade_69 (ic_0) ?_
    obtain ⟨⟨r70, f_70⟩, hc70, hf⟩ := bd_e hf
    try dsimp only at hf
    refine cl_i_same (Wd := (wX7 G ad f)) (W' := (wX7 G ad f_70)) (va_runV (As := [.int (nI 0), .int (nI 4), .int (nI 0)]) (rest := [.int (x1 + (nI 1)), .ref (ad 2)]) hC (c_X7_other l G ad f (nI 0) (nI 4) (nI 0) r70 f_70 hc70 _) (cwV 3 hts gX7_readTrade_X7_other rfl rfl rfl (by decide +kernel) ⟨Nat.le_of_ble_eq_true rfl, Nat.le_of_ble_eq_true rfl⟩) ⟨Pc0_blind, va_recv hT hP (q0 := 0) (ci := 7) rfl rfl, fun U hU hW => Pc0_at hE hP hD hU hW⟩ rfl rfl hl.1 rfl (lv_room (Nat.le_of_ble_eq_true rfl)) dX7_readTrade_70 ⟨Nat.zero_le _, Nat.zero_le _⟩) hS hA hD (fun H locs hP hD hS => ?_)
    obtain ⟨hg, hf⟩ := gd_e hf
    obtain ⟨g73, eg73, hf⟩ := bnd_e hf
    refine va_iast (f := f_70 2) hx hb hT hP hD hS 2 0 rfl rfl (inb_e hg) dX7_readTrade_73 (fun H locs hP hD hS => ?_)
    rw [← eg73] at hP hD
    have hP : va_P G.1 vwCl (wX7 G ad (mrow 2 (g73) f_70)) H := hP
    have hD : va_D A (wX7 G ad (mrow 2 (g73) f_70)) := hD
    refine lv_aload_n hx hb dX7_readTrade_74 rfl (lv_at hl 0 rfl) ?_
    refine va_get (C := RX7) (T := TX7) (N := 34) (ci := 7) (v := .ref (ad 2)) hx hb hts inX7 hown hT hP 0 rfl rfl 2 (Nat.le_of_ble_eq_true rfl) lk13 (fun _ h => h) rfl dX7_readTrade_75 ?_
    refine lv_iload_n hx hb dX7_readTrade_78 rfl (lv_at hl 1 rfl) ?_
    refine lv_iconst (v := (nI 2)) hx hb dX7_readTrade_79 (ic_2) ?_
    refine lv_iadd hx hb dX7_readTrade_80 ?_
    refine lv_aload_n hx hb dX7_readTrade_81 rfl (lv_at hl 0 rfl) ?_
    obtain ⟨⟨r82, f_82⟩, hc82, hf⟩ := bd_e hf
    try dsimp only at hf
    refine cl_i_same (Wd := (wX7 G ad (mrow 2 (g73) f_70))) (W' := (wX7 G ad f_82)) (va_runV (As := []) (rest := [.int (x1 + (nI 2)), .ref (ad 2)]) hC (c_X7_gooseHere l G ad (mrow 2 (g73) f_70) r82 f_82 hc82 _) (cwV 0 hts gX7_readTrade_X7_gooseHere rfl rfl rfl (by decide +kernel) ⟨Nat.le_of_ble_eq_true rfl, Nat.le_of_ble_eq_true rfl⟩) ⟨Pc0_blind, va_recv hT hP (q0 := 0) (ci := 7) rfl rfl, fun U hU hW => Pc0_at hE hP hD hU hW⟩ rfl rfl hl.1 rfl (lv_room (Nat.le_of_ble_eq_true rfl)) dX7_readTrade_82 ⟨Nat.zero_le _, Nat.zero_le _⟩) hS hA hD (fun H locs hP hD hS => ?_)
    obtain ⟨hg, hf⟩ := gd_e hf
    obtain ⟨g85, eg85, hf⟩ := bnd_e hf
    refine va_iast (f := f_82 2) hx hb hT hP hD hS 2 0 rfl rfl (inb_e hg) dX7_readTrade_85 (fun H locs hP hD hS => ?_)
    rw [← eg85] at hP hD
    have hP : va_P G.1 vwCl (wX7 G ad (mrow 2 (g85) f_82)) H := hP
    have hD : va_D A (wX7 G ad (mrow 2 (g85) f_82)) := hD
    refine lv_aload_n hx hb dX7_readTrade_86 rfl (lv_at hl 0 rfl) ?_
    refine va_get (C := RX7) (T := TX7) (N := 34) (ci := 7) (v := .ref (ad 2)) hx hb hts inX7 hown hT hP 0 rfl rfl 2 (Nat.le_of_ble_eq_true rfl) lk13 (fun _ h => h) rfl dX7_readTrade_87 ?_
    refine lv_iload_n hx hb dX7_readTrade_90 rfl (lv_at hl 1 rfl) ?_
    refine lv_iconst (v := (nI 3)) hx hb dX7_readTrade_91 (ic_3) ?_
    refine lv_iadd hx hb dX7_readTrade_92 ?_
    refine lv_aload_n hx hb dX7_readTrade_93 rfl (lv_at hl 0 rfl) ?_
    refine lv_iconst (v := (nI 1)) hx hb dX7_readTrade_94 (ic_1) ?_
    refine lv_bipush (v := (nI 9)) hx hb dX7_readTrade_95 (bi_9) ?_
    refine lv_iconst (v := (nI 0)) hx hb dX7_readTrade_97 (ic_0) ?_
    obtain ⟨⟨r98, f_98⟩, hc98, hf⟩ := bd_e hf
    try dsimp only at hf
    refine cl_i_same (Wd := (wX7 G ad (mrow 2 (g85) f_82))) (W' := (wX7 G ad f_98)) (va_runV (As := [.int (nI 1), .int (nI 9), .int (nI 0)]) (rest := [.int (x1 + (nI 3)), .ref (ad 2)]) hC (c_X7_other l G ad (mrow 2 (g85) f_82) (nI 1) (nI 9) (nI 0) r98 f_98 hc98 _) (cwV 3 hts gX7_readTrade_X7_other rfl rfl rfl (by decide +kernel) ⟨Nat.le_of_ble_eq_true rfl, Nat.le_of_ble_eq_true rfl⟩) ⟨Pc0_blind, va_recv hT hP (q0 := 0) (ci := 7) rfl rfl, fun U hU hW => Pc0_at hE hP hD hU hW⟩ rfl rfl hl.1 rfl (lv_room (Nat.le_of_ble_eq_true rfl)) dX7_readTrade_98 ⟨Nat.zero_le _, Nat.zero_le _⟩) hS hA hD (fun H locs hP hD hS => ?_)
    obtain ⟨hg, hf⟩ := gd_e hf
    obtain ⟨g101, eg101, hf⟩ := bnd_e hf
    refine va_iast (f := f_98 2) hx hb hT hP hD hS 2 0 rfl rfl (inb_e hg) dX7_readTrade_101 (fun H locs hP hD hS => ?_)
    rw [← eg101] at hP hD
    have hP : va_P G.1 vwCl (wX7 G ad (mrow 2 (g101) f_98)) H := hP
    have hD : va_D A (wX7 G ad (mrow 2 (g101) f_98)) := hD
    refine lv_aload_n hx hb dX7_readTrade_102 rfl (lv_at hl 0 rfl) ?_
    refine va_get (C := RX7) (T := TX7) (N := 34) (ci := 7) (v := .ref (ad 2)) hx hb hts inX7 hown hT hP 0 rfl rfl 2 (Nat.le_of_ble_eq_true rfl) lk13 (fun _ h => h) rfl dX7_readTrade_103 ?_
    refine lv_bipush (v := (nI 59)) hx hb dX7_readTrade_106 (bi_59) ?_
    refine lv_dup2_11 hx hb dX7_readTrade_108 rfl rfl ?_
    obtain ⟨hg, hf⟩ := gd_e hf
    refine va_iald (f := g101) hx hb hT hP 2 0 rfl rfl (inb_e hg) dX7_readTrade_109 ?_
    refine lv_iconst (v := (nI 1)) hx hb dX7_readTrade_110 (ic_1) ?_
    refine lv_iadd hx hb dX7_readTrade_111 ?_
    obtain ⟨hg, hf⟩ := gd_e hf
    obtain ⟨g112, eg112, hf⟩ := bnd_e hf
    refine va_iast (f := g101) hx hb hT hP hD hS 2 0 rfl rfl (inb_e hg) dX7_readTrade_112 (fun H locs hP hD hS => ?_)
    rw [← eg112] at hP hD
    have hP : va_P G.1 vwCl (wX7 G ad (mrow 2 (g112) (mrow 2 (g101) f_98))) H := hP
    have hD : va_D A (wX7 G ad (mrow 2 (g112) (mrow 2 (g101) f_98))) := hD
    have hK9 := K0_of hf hK
    exact hRet (mrow 2 (g112) (mrow 2 (g101) f_98)) _ _ _ _ hK9 dX7_readTrade_113 hP hD hS
  obtain ⟨res, hres, hK⟩ : ∃ res, p_X7_readTrade f = some res ∧ res = fz := ⟨_, hf, rfl⟩
  clear hf
  have hf := hres
  clear hres
  unfold p_X7_readTrade at hf
  refine lv_bipush (v := (nI 35)) hx hb dX7_readTrade_0 (bi_35) ?_
  refine lv_iconst (v := (nI 4)) hx hb dX7_readTrade_2 (ic_4) ?_
  refine lv_aload_n hx hb dX7_readTrade_3 rfl (lv_at hl 0 rfl) ?_
  refine va_get (C := RX7) (T := TX7) (N := 34) (ci := 7) (v := .ref (ad 2)) hx hb hts inX7 hown hT hP 0 rfl rfl 2 (Nat.le_of_ble_eq_true rfl) lk13 (fun _ h => h) rfl dX7_readTrade_4 ?_
  refine lv_bipush (v := (nI 59)) hx hb dX7_readTrade_7 (bi_59) ?_
  obtain ⟨hg, hf⟩ := gd_e hf
  refine va_iald (f := f 2) hx hb hT hP 2 0 rfl rfl (inb_e hg) dX7_readTrade_9 ?_
  refine lv_imul hx hb dX7_readTrade_10 ?_
  refine lv_iadd hx hb dX7_readTrade_11 ?_
  refine lv_istore_n (lv' := [(1, .int ((nI 35) + ((nI 4) * (f 2 (nI 59).toNatClampNeg)))), (0, .ref (ad 0))]) hx hb dX7_readTrade_12 rfl hl (by decide) rfl (fun ls hl => ?_)
  refine lv_aload_n hx hb dX7_readTrade_13 rfl (lv_at hl 1 rfl) ?_
  refine va_get (C := RX7) (T := TX7) (N := 34) (ci := 7) (v := .ref (ad 2)) hx hb hts inX7 hown hT hP 0 rfl rfl 2 (Nat.le_of_ble_eq_true rfl) lk13 (fun _ h => h) rfl dX7_readTrade_14 ?_
  refine lv_iload_n hx hb dX7_readTrade_17 rfl (lv_at hl 0 rfl) ?_
  refine lv_aload_n hx hb dX7_readTrade_18 rfl (lv_at hl 1 rfl) ?_
  refine lv_iconst (v := (nI 0)) hx hb dX7_readTrade_19 (ic_0) ?_
  refine lv_iconst (v := (nI 4)) hx hb dX7_readTrade_20 (ic_4) ?_
  refine lv_iconst (v := (nI 0)) hx hb dX7_readTrade_21 (ic_0) ?_
  obtain ⟨⟨r22, f_22⟩, hc22, hf⟩ := bd_e hf
  try dsimp only at hf
  refine cl_i_same (Wd := (wX7 G ad f)) (W' := (wX7 G ad f_22)) (va_runV (As := [.int (nI 0), .int (nI 4), .int (nI 0)]) (rest := [.int ((nI 35) + ((nI 4) * (f 2 (nI 59).toNatClampNeg))), .ref (ad 2)]) hC (c_X7_other l G ad f (nI 0) (nI 4) (nI 0) r22 f_22 hc22 _) (cwV 3 hts gX7_readTrade_X7_other rfl rfl rfl (by decide +kernel) ⟨Nat.le_of_ble_eq_true rfl, Nat.le_of_ble_eq_true rfl⟩) ⟨Pc0_blind, va_recv hT hP (q0 := 0) (ci := 7) rfl rfl, fun U hU hW => Pc0_at hE hP hD hU hW⟩ rfl rfl hl.1 rfl (lv_room (Nat.le_of_ble_eq_true rfl)) dX7_readTrade_22 ⟨Nat.zero_le _, Nat.zero_le _⟩) hS hA hD (fun H locs hP hD hS => ?_)
  obtain ⟨hg, hf⟩ := gd_e hf
  obtain ⟨g25, eg25, hf⟩ := bnd_e hf
  refine va_iast (f := f_22 2) hx hb hT hP hD hS 2 0 rfl rfl (inb_e hg) dX7_readTrade_25 (fun H locs hP hD hS => ?_)
  rw [← eg25] at hP hD
  have hP : va_P G.1 vwCl (wX7 G ad (mrow 2 (g25) f_22)) H := hP
  have hD : va_D A (wX7 G ad (mrow 2 (g25) f_22)) := hD
  refine lv_aload_n hx hb dX7_readTrade_26 rfl (lv_at hl 1 rfl) ?_
  refine va_get (C := RX7) (T := TX7) (N := 34) (ci := 7) (v := .int (f_22 0 7)) hx hb hts inX7 hown hT hP 0 rfl rfl 10 (Nat.le_of_ble_eq_true rfl) lk54 (fun _ h => h) rfl dX7_readTrade_27 ?_
  refine lv_if_ne (tgt := 59) hx hb dX7_readTrade_30 (by decide) (fun hc => ?_) (fun hc => ?_)
  · have hf := if_f hf hc
    exact hB59 (mrow 2 (g25) f_22) ((nI 35) + ((nI 4) * (f 2 (nI 59).toNatClampNeg))) _ hf hK _ _ _ hP hD hS (lv_sub hl [1, 0] rfl)
  · have hf := if_t hf hc
    refine lv_aload_n hx hb dX7_readTrade_33 rfl (lv_at hl 1 rfl) ?_
    refine va_get (C := RX7) (T := TX7) (N := 34) (ci := 7) (v := .int (f_22 0 11)) hx hb hts inX7 hown hT hP 0 rfl rfl 14 (Nat.le_of_ble_eq_true rfl) lk63 (fun _ h => h) rfl dX7_readTrade_34 ?_
    refine lv_iconst (v := (nI 2)) hx hb dX7_readTrade_37 (ic_2) ?_
    refine lv_icmp_ne (tgt := 59) hx hb dX7_readTrade_38 (by decide) (fun hc => ?_) (fun hc => ?_)
    · have hf := if_f hf hc
      exact hB59 (mrow 2 (g25) f_22) ((nI 35) + ((nI 4) * (f 2 (nI 59).toNatClampNeg))) _ hf hK _ _ _ hP hD hS (lv_sub hl [1, 0] rfl)
    · have hf := if_t hf hc
      refine lv_aload_n hx hb dX7_readTrade_41 rfl (lv_at hl 1 rfl) ?_
      refine va_get (C := RX7) (T := TX7) (N := 34) (ci := 7) (v := .int (f_22 0 12)) hx hb hts inX7 hown hT hP 0 rfl rfl 15 (Nat.le_of_ble_eq_true rfl) lk73 (fun _ h => h) rfl dX7_readTrade_42 ?_
      refine lv_aload_n hx hb dX7_readTrade_45 rfl (lv_at hl 1 rfl) ?_
      refine va_get (C := RX7) (T := TX7) (N := 34) (ci := 7) (v := .ref (ad 2)) hx hb hts inX7 hown hT hP 0 rfl rfl 2 (Nat.le_of_ble_eq_true rfl) lk13 (fun _ h => h) rfl dX7_readTrade_46 ?_
      refine lv_iload_n hx hb dX7_readTrade_49 rfl (lv_at hl 0 rfl) ?_
      obtain ⟨hg, hf⟩ := gd_e hf
      refine va_iald (f := g25) hx hb hT hP 2 0 rfl rfl (inb_e hg) dX7_readTrade_50 ?_
      refine lv_icmp_ne (tgt := 59) hx hb dX7_readTrade_51 (by decide) (fun hc => ?_) (fun hc => ?_)
      · have hf := if_f hf hc
        exact hB59 (mrow 2 (g25) f_22) ((nI 35) + ((nI 4) * (f 2 (nI 59).toNatClampNeg))) _ hf hK _ _ _ hP hD hS (lv_sub hl [1, 0] rfl)
      · have hf := if_t hf hc
        refine lv_aload_n hx hb dX7_readTrade_54 rfl (lv_at hl 1 rfl) ?_
        refine lv_iconst (v := (nI 3)) hx hb dX7_readTrade_55 (ic_3) ?_
        obtain ⟨f_56, hc56, hf⟩ := bd_e hf
        refine cl_v_same (Wd := (wX7 G ad (mrow 2 (g25) f_22))) (W' := (wX7 G ad f_56)) (va_runV (As := [.int (nI 3)]) (rest := []) hC (c_X7_fails l G ad (mrow 2 (g25) f_22) (nI 3) f_56 hc56 _) (cwV 1 hts gX7_readTrade_X7_fails rfl rfl rfl (by decide +kernel) ⟨Nat.le_of_ble_eq_true rfl, Nat.le_of_ble_eq_true rfl⟩) ⟨Pc0_blind, va_recv hT hP (q0 := 0) (ci := 7) rfl rfl, fun U hU hW => Pc0_at hE hP hD hU hW⟩ rfl rfl hl.1 rfl (lv_room (Nat.le_of_ble_eq_true rfl)) dX7_readTrade_56 ⟨Nat.zero_le _, Nat.zero_le _⟩) hS hA hD (fun H locs hP hD hS => ?_)
        exact hB59 f_56 ((nI 35) + ((nI 4) * (f 2 (nI 59).toNatClampNeg))) _ hf hK _ _ _ hP hD hS (lv_sub hl [1, 0] rfl)
noncomputable def p_X7_readMore (f : Mem) (x1 : Int32) : Option (Mem) :=
  if (nI 3) < x1 then
    (if x1 = (nI 4) then
       (Option.bind (p_X7_gooseHere f) <| fun (r72, f_72) =>
        Option.bind (p_X7_other f_72 (nI 0) (nI 4) (((f_72 0 2) >>> (((nI 5) * r72) &&& 31)) &&& (nI 31))) <| fun (r90, f_90) =>
        Option.bind (p_X7_other (mset 0 2 ((f_90 0 2) ||| ((nI 1) <<< ((((nI 5) * r72) + r90) &&& 31))) f_90) (nI 0) (nI 99) (nI 0)) <| fun (r127, f_127) =>
        gd (inb (((nI 19) + ((nI 5) * r72)) + r90) 60) <|
        bnd (upd (f_127 2) (((nI 19) + ((nI 5) * r72)) + r90).toNatClampNeg r127) <| fun g130 =>
        some (mrow 2 (g130) f_127))
     else
       (if x1 = (nI 5) then
          (Option.bind (p_X7_other f (nI 0) (nI 4) (f 0 3)) <| fun (r146, f_146) =>
           Option.bind (p_X7_other (mset 0 3 ((f_146 0 3) ||| ((nI 1) <<< (r146 &&& 31))) f_146) (nI 0) (nI 99) (nI 0)) <| fun (r175, f_175) =>
           gd (inb ((nI 9) + r146) 60) <|
           bnd (upd (f_175 2) ((nI 9) + r146).toNatClampNeg (r175 - (nI 20))) <| fun g181 =>
           some (mrow 2 (g181) f_175))
        else
          (Option.bind (p_X7_readTrade f) <| fun f_186 =>
           some f_186)))
  else
    (gd (inb (f 0 1) 60) <|
     bnd (upd (f 2) (f 0 1).toNatClampNeg x1) <| fun g14 =>
     Option.bind (p_X7_other (mrow 2 (g14) f) (nI 0) (nI 4) (nI 0)) <| fun (r29, f_29) =>
     gd (inb ((nI 3) + (f 0 1)) 60) <|
     bnd (upd (f_29 2) ((nI 3) + (f 0 1)).toNatClampNeg r29) <| fun g32 =>
     Option.bind (p_X7_other (mrow 2 (g32) f_29) (nI 1) (nI 9) (nI 0)) <| fun (r49, f_49) =>
     gd (inb ((nI 6) + (f_29 0 1)) 60) <|
     bnd (upd (f_49 2) ((nI 6) + (f_29 0 1)).toNatClampNeg r49) <| fun g52 =>
     some (mset 0 1 ((f_49 0 1) + (nI 1)) (mrow 2 (g52) f_49)))
set_option maxHeartbeats 4000000 in
set_option maxRecDepth 100000 in
theorem c_X7_readMore (l : Launch) (G : Gt) (ad : Nat → Nat) (f : Mem) (x1 : Int32) (fz : Mem) (hf : p_X7_readMore f x1 = some fz) (sz : Nat) : Met l yX7_readMore wsX7_readMore ({ frames := 6, cells := 0, slots := 0, locals := 124 }) (Pc0 G sz [.ref (ad 0), .int x1] (wX7 G ad f)) (Qv0 G (va_A (wX7 G ad f) sz) (wX7 G ad fz)) 0 0 (va_A (wX7 G ad f) sz) := by
  refine metP (Qf := fun A => Qv0 G A (wX7 G ad fz)) cX7_readMore 4 (none) (by decide) rfl (Nat.le_of_ble_eq_true rfl) ?_
  intro p e s m below meth c A ls hC hr hlocks hin hE hA hsz hP hD hS hl
  generalize hargs : ([.ref (ad 0), .int x1] : List Value).toArray = args at hC ⊢
  obtain ⟨hx, hb, hml, hown, hts⟩ := id hC
  have hT : va_K G.1 vwCl (tyL G) s := hE.1
  have hRet : ∀ (f9 : Mem) (H : Heap) (locs : List Loc) (ls : Array Slot) (pc : Nat) (hK9 : f9 = fz) (hdg : decode cX7_readMore pc = .ok (.return_, 1)), va_P G.1 vwCl (wX7 G ad f9) H → va_D A (wX7 G ad f9) → va_S A s.heap H locs → W p l e ({ frames := 6, cells := 0, slots := 0, locals := 124 }) s m args below meth c H locs 0 0 (MQ below (Qv0 G A (wX7 G ad fz)) args s 0 0 A) (F0 m pc ls []) := by
    intro f9 H locs ls pc hK9 hdg hP hD hS
    cases hK9
    exact W.vret hx hb hr (fun t ht hW => ⟨⟨(), rfl, trivial, by rw [ht]; exact hP, hD⟩, hS.F ht⟩) hS.2.2 hdg hlocks
  generalize MQ below (Qv0 G A (wX7 G ad fz)) args s 0 0 A = Q at hRet ⊢
  have lk108 := hts (.fieldLink RX7 108 "FeatherSharesModel" "moneyTold" "I") (by decide +kernel)
  have inX7 : ∀ w ∈ u_ws RX7 TX7 34, w ∈ wsX7_readMore := by decide +kernel
  have lk13 := hts (.fieldLink RX7 13 "FeatherSharesModel" "readPage" "[I") (by decide +kernel)
  have lk105 := hts (.fieldLink RX7 105 "FeatherSharesModel" "sharesTold" "I") (by decide +kernel)
  have lk102 := hts (.fieldLink RX7 102 "FeatherSharesModel" "readGeese" "I") (by decide +kernel)
  have hl : lv_has ls 4 [(0, .ref (ad 0)), (1, .int x1)] := hl
  have hK0 : fz = fz := rfl
  obtain ⟨res, hres, hK⟩ : ∃ res, p_X7_readMore f x1 = some res ∧ res = fz := ⟨_, hf, rfl⟩
  clear hf
  have hf := hres
  clear hres
  unfold p_X7_readMore at hf
  refine lv_iload_n hx hb dX7_readMore_0 rfl (lv_at hl 1 rfl) ?_
  refine lv_iconst (v := (nI 3)) hx hb dX7_readMore_1 (ic_3) ?_
  refine lv_icmp_gt (tgt := 66) hx hb dX7_readMore_2 (by decide) (fun hc => ?_) (fun hc => ?_)
  · have hf := if_t hf hc
    refine lv_iload_n hx hb dX7_readMore_66 rfl (lv_at hl 1 rfl) ?_
    refine lv_iconst (v := (nI 4)) hx hb dX7_readMore_67 (ic_4) ?_
    refine lv_icmp_ne (tgt := 134) hx hb dX7_readMore_68 (by decide) (fun hc => ?_) (fun hc => ?_)
    · have hf := if_f hf hc
      refine lv_iload_n hx hb dX7_readMore_134 rfl (lv_at hl 1 rfl) ?_
      refine lv_iconst (v := (nI 5)) hx hb dX7_readMore_135 (ic_5) ?_
      refine lv_icmp_ne (tgt := 185) hx hb dX7_readMore_136 (by decide) (fun hc => ?_) (fun hc => ?_)
      · have hf := if_f hf hc
        refine lv_aload_n hx hb dX7_readMore_185 rfl (lv_at hl 0 rfl) ?_
        obtain ⟨f_186, hc186, hf⟩ := bd_e hf
        refine cl_v_same (Wd := (wX7 G ad f)) (W' := (wX7 G ad f_186)) (va_runV (As := []) (rest := []) hC (c_X7_readTrade l G ad f f_186 hc186 _) (cwV 0 hts gX7_readMore_X7_readTrade rfl rfl rfl (by decide +kernel) ⟨Nat.le_of_ble_eq_true rfl, Nat.le_of_ble_eq_true rfl⟩) ⟨Pc0_blind, va_recv hT hP (q0 := 0) (ci := 7) rfl rfl, fun U hU hW => Pc0_at hE hP hD hU hW⟩ rfl rfl hl.1 rfl (lv_room (Nat.le_of_ble_eq_true rfl)) dX7_readMore_186 ⟨Nat.zero_le _, Nat.zero_le _⟩) hS hA hD (fun H locs hP hD hS => ?_)
        have hK9 := K0_of hf hK
        exact hRet f_186 _ _ _ _ hK9 dX7_readMore_189 hP hD hS
      · have hf := if_t hf hc
        refine lv_aload_n hx hb dX7_readMore_139 rfl (lv_at hl 0 rfl) ?_
        refine lv_iconst (v := (nI 0)) hx hb dX7_readMore_140 (ic_0) ?_
        refine lv_iconst (v := (nI 4)) hx hb dX7_readMore_141 (ic_4) ?_
        refine lv_aload_n hx hb dX7_readMore_142 rfl (lv_at hl 0 rfl) ?_
        refine va_get (C := RX7) (T := TX7) (N := 34) (ci := 7) (v := .int (f 0 3)) hx hb hts inX7 hown hT hP 0 rfl rfl 5 (Nat.le_of_ble_eq_true rfl) lk108 (fun _ h => h) rfl dX7_readMore_143 ?_
        obtain ⟨⟨r146, f_146⟩, hc146, hf⟩ := bd_e hf
        try dsimp only at hf
        refine cl_i_same (Wd := (wX7 G ad f)) (W' := (wX7 G ad f_146)) (va_runV (As := [.int (nI 0), .int (nI 4), .int (f 0 3)]) (rest := []) hC (c_X7_other l G ad f (nI 0) (nI 4) (f 0 3) r146 f_146 hc146 _) (cwV 3 hts gX7_readMore_X7_other rfl rfl rfl (by decide +kernel) ⟨Nat.le_of_ble_eq_true rfl, Nat.le_of_ble_eq_true rfl⟩) ⟨Pc0_blind, va_recv hT hP (q0 := 0) (ci := 7) rfl rfl, fun U hU hW => Pc0_at hE hP hD hU hW⟩ rfl rfl hl.1 rfl (lv_room (Nat.le_of_ble_eq_true rfl)) dX7_readMore_146 ⟨Nat.zero_le _, Nat.zero_le _⟩) hS hA hD (fun H locs hP hD hS => ?_)
        refine lv_istore_n (lv' := [(2, .int r146), (0, .ref (ad 0)), (1, .int x1)]) hx hb dX7_readMore_149 rfl hl (by decide) rfl (fun ls hl => ?_)
        refine lv_aload_n hx hb dX7_readMore_150 rfl (lv_at hl 1 rfl) ?_
        refine lv_dup hx hb dX7_readMore_151 rfl ?_
        refine va_get (C := RX7) (T := TX7) (N := 34) (ci := 7) (v := .int (f_146 0 3)) hx hb hts inX7 hown hT hP 0 rfl rfl 5 (Nat.le_of_ble_eq_true rfl) lk108 (fun _ h => h) rfl dX7_readMore_152 ?_
        refine lv_iconst (v := (nI 1)) hx hb dX7_readMore_155 (ic_1) ?_
        refine lv_iload_n hx hb dX7_readMore_156 rfl (lv_at hl 0 rfl) ?_
        refine lv_ishl hx hb dX7_readMore_157 ?_
        refine lv_ior hx hb dX7_readMore_158 ?_
        refine va_put (C := RX7) (T := TX7) (N := 34) (ci := 7) (ty := .int) (v := .int ((f_146 0 3) ||| ((nI 1) <<< (r146 &&& 31)))) hx hb hts inX7 tyX7 tyX7_ok nmX7 hown hT hP hD hS 0 rfl rfl 5 (Nat.le_of_ble_eq_true rfl) lk108 (fun _ h => h) rfl (by decide +kernel) rfl rfl (Nat.le_of_ble_eq_true rfl) dX7_readMore_159 (fun H locs hP hD hS => ?_)
        have hP : va_P G.1 vwCl (wX7 G ad (mset 0 3 ((f_146 0 3) ||| ((nI 1) <<< (r146 &&& 31))) f_146)) H := hP
        have hD : va_D A (wX7 G ad (mset 0 3 ((f_146 0 3) ||| ((nI 1) <<< (r146 &&& 31))) f_146)) := hD
        refine lv_aload_n hx hb dX7_readMore_162 rfl (lv_at hl 1 rfl) ?_
        refine va_get (C := RX7) (T := TX7) (N := 34) (ci := 7) (v := .ref (ad 2)) hx hb hts inX7 hown hT hP 0 rfl rfl 2 (Nat.le_of_ble_eq_true rfl) lk13 (fun _ h => h) rfl dX7_readMore_163 ?_
        refine lv_bipush (v := (nI 9)) hx hb dX7_readMore_166 (bi_9) ?_
        refine lv_iload_n hx hb dX7_readMore_168 rfl (lv_at hl 0 rfl) ?_
        refine lv_iadd hx hb dX7_readMore_169 ?_
        refine lv_aload_n hx hb dX7_readMore_170 rfl (lv_at hl 1 rfl) ?_
        refine lv_iconst (v := (nI 0)) hx hb dX7_readMore_171 (ic_0) ?_
        refine lv_bipush (v := (nI 99)) hx hb dX7_readMore_172 (bi_99) ?_
        refine lv_iconst (v := (nI 0)) hx hb dX7_readMore_174 (ic_0) ?_
        obtain ⟨⟨r175, f_175⟩, hc175, hf⟩ := bd_e hf
        try dsimp only at hf
        refine cl_i_same (Wd := (wX7 G ad (mset 0 3 ((f_146 0 3) ||| ((nI 1) <<< (r146 &&& 31))) f_146))) (W' := (wX7 G ad f_175)) (va_runV (As := [.int (nI 0), .int (nI 99), .int (nI 0)]) (rest := [.int ((nI 9) + r146), .ref (ad 2)]) hC (c_X7_other l G ad (mset 0 3 ((f_146 0 3) ||| ((nI 1) <<< (r146 &&& 31))) f_146) (nI 0) (nI 99) (nI 0) r175 f_175 hc175 _) (cwV 3 hts gX7_readMore_X7_other rfl rfl rfl (by decide +kernel) ⟨Nat.le_of_ble_eq_true rfl, Nat.le_of_ble_eq_true rfl⟩) ⟨Pc0_blind, va_recv hT hP (q0 := 0) (ci := 7) rfl rfl, fun U hU hW => Pc0_at hE hP hD hU hW⟩ rfl rfl hl.1 rfl (lv_room (Nat.le_of_ble_eq_true rfl)) dX7_readMore_175 ⟨Nat.zero_le _, Nat.zero_le _⟩) hS hA hD (fun H locs hP hD hS => ?_)
        refine lv_bipush (v := (nI 20)) hx hb dX7_readMore_178 (bi_20) ?_
        refine lv_isub hx hb dX7_readMore_180 ?_
        obtain ⟨hg, hf⟩ := gd_e hf
        obtain ⟨g181, eg181, hf⟩ := bnd_e hf
        refine va_iast (f := f_175 2) hx hb hT hP hD hS 2 0 rfl rfl (inb_e hg) dX7_readMore_181 (fun H locs hP hD hS => ?_)
        rw [← eg181] at hP hD
        have hP : va_P G.1 vwCl (wX7 G ad (mrow 2 (g181) f_175)) H := hP
        have hD : va_D A (wX7 G ad (mrow 2 (g181) f_175)) := hD
        refine lv_goto (tgt := 189) hx hb dX7_readMore_182 (by decide) ?_
        have hK9 := K0_of hf hK
        exact hRet (mrow 2 (g181) f_175) _ _ _ _ hK9 dX7_readMore_189 hP hD hS
    · have hf := if_t hf hc
      refine lv_aload_n hx hb dX7_readMore_71 rfl (lv_at hl 0 rfl) ?_
      obtain ⟨⟨r72, f_72⟩, hc72, hf⟩ := bd_e hf
      try dsimp only at hf
      refine cl_i_same (Wd := (wX7 G ad f)) (W' := (wX7 G ad f_72)) (va_runV (As := []) (rest := []) hC (c_X7_gooseHere l G ad f r72 f_72 hc72 _) (cwV 0 hts gX7_readMore_X7_gooseHere rfl rfl rfl (by decide +kernel) ⟨Nat.le_of_ble_eq_true rfl, Nat.le_of_ble_eq_true rfl⟩) ⟨Pc0_blind, va_recv hT hP (q0 := 0) (ci := 7) rfl rfl, fun U hU hW => Pc0_at hE hP hD hU hW⟩ rfl rfl hl.1 rfl (lv_room (Nat.le_of_ble_eq_true rfl)) dX7_readMore_72 ⟨Nat.zero_le _, Nat.zero_le _⟩) hS hA hD (fun H locs hP hD hS => ?_)
      refine lv_istore_n (lv' := [(2, .int r72), (0, .ref (ad 0)), (1, .int x1)]) hx hb dX7_readMore_75 rfl hl (by decide) rfl (fun ls hl => ?_)
      refine lv_aload_n hx hb dX7_readMore_76 rfl (lv_at hl 1 rfl) ?_
      refine lv_iconst (v := (nI 0)) hx hb dX7_readMore_77 (ic_0) ?_
      refine lv_iconst (v := (nI 4)) hx hb dX7_readMore_78 (ic_4) ?_
      refine lv_aload_n hx hb dX7_readMore_79 rfl (lv_at hl 1 rfl) ?_
      refine va_get (C := RX7) (T := TX7) (N := 34) (ci := 7) (v := .int (f_72 0 2)) hx hb hts inX7 hown hT hP 0 rfl rfl 4 (Nat.le_of_ble_eq_true rfl) lk105 (fun _ h => h) rfl dX7_readMore_80 ?_
      refine lv_iconst (v := (nI 5)) hx hb dX7_readMore_83 (ic_5) ?_
      refine lv_iload_n hx hb dX7_readMore_84 rfl (lv_at hl 0 rfl) ?_
      refine lv_imul hx hb dX7_readMore_85 ?_
      refine lv_ishr hx hb dX7_readMore_86 ?_
      refine lv_bipush (v := (nI 31)) hx hb dX7_readMore_87 (bi_31) ?_
      refine lv_iand hx hb dX7_readMore_89 ?_
      obtain ⟨⟨r90, f_90⟩, hc90, hf⟩ := bd_e hf
      try dsimp only at hf
      refine cl_i_same (Wd := (wX7 G ad f_72)) (W' := (wX7 G ad f_90)) (va_runV (As := [.int (nI 0), .int (nI 4), .int (((f_72 0 2) >>> (((nI 5) * r72) &&& 31)) &&& (nI 31))]) (rest := []) hC (c_X7_other l G ad f_72 (nI 0) (nI 4) (((f_72 0 2) >>> (((nI 5) * r72) &&& 31)) &&& (nI 31)) r90 f_90 hc90 _) (cwV 3 hts gX7_readMore_X7_other rfl rfl rfl (by decide +kernel) ⟨Nat.le_of_ble_eq_true rfl, Nat.le_of_ble_eq_true rfl⟩) ⟨Pc0_blind, va_recv hT hP (q0 := 0) (ci := 7) rfl rfl, fun U hU hW => Pc0_at hE hP hD hU hW⟩ rfl rfl hl.1 rfl (lv_room (Nat.le_of_ble_eq_true rfl)) dX7_readMore_90 ⟨Nat.zero_le _, Nat.zero_le _⟩) hS hA hD (fun H locs hP hD hS => ?_)
      refine lv_istore_n (lv' := [(3, .int r90), (2, .int r72), (0, .ref (ad 0)), (1, .int x1)]) hx hb dX7_readMore_93 rfl hl (by decide) rfl (fun ls hl => ?_)
      refine lv_aload_n hx hb dX7_readMore_94 rfl (lv_at hl 2 rfl) ?_
      refine lv_dup hx hb dX7_readMore_95 rfl ?_
      refine va_get (C := RX7) (T := TX7) (N := 34) (ci := 7) (v := .int (f_90 0 2)) hx hb hts inX7 hown hT hP 0 rfl rfl 4 (Nat.le_of_ble_eq_true rfl) lk105 (fun _ h => h) rfl dX7_readMore_96 ?_
      refine lv_iconst (v := (nI 1)) hx hb dX7_readMore_99 (ic_1) ?_
      refine lv_iconst (v := (nI 5)) hx hb dX7_readMore_100 (ic_5) ?_
      refine lv_iload_n hx hb dX7_readMore_101 rfl (lv_at hl 1 rfl) ?_
      refine lv_imul hx hb dX7_readMore_102 ?_
      refine lv_iload_n hx hb dX7_readMore_103 rfl (lv_at hl 0 rfl) ?_
      refine lv_iadd hx hb dX7_readMore_104 ?_
      refine lv_ishl hx hb dX7_readMore_105 ?_
      refine lv_ior hx hb dX7_readMore_106 ?_
      refine va_put (C := RX7) (T := TX7) (N := 34) (ci := 7) (ty := .int) (v := .int ((f_90 0 2) ||| ((nI 1) <<< ((((nI 5) * r72) + r90) &&& 31)))) hx hb hts inX7 tyX7 tyX7_ok nmX7 hown hT hP hD hS 0 rfl rfl 4 (Nat.le_of_ble_eq_true rfl) lk105 (fun _ h => h) rfl (by decide +kernel) rfl rfl (Nat.le_of_ble_eq_true rfl) dX7_readMore_107 (fun H locs hP hD hS => ?_)
      have hP : va_P G.1 vwCl (wX7 G ad (mset 0 2 ((f_90 0 2) ||| ((nI 1) <<< ((((nI 5) * r72) + r90) &&& 31))) f_90)) H := hP
      have hD : va_D A (wX7 G ad (mset 0 2 ((f_90 0 2) ||| ((nI 1) <<< ((((nI 5) * r72) + r90) &&& 31))) f_90)) := hD
      refine lv_aload_n hx hb dX7_readMore_110 rfl (lv_at hl 2 rfl) ?_
      refine va_get (C := RX7) (T := TX7) (N := 34) (ci := 7) (v := .ref (ad 2)) hx hb hts inX7 hown hT hP 0 rfl rfl 2 (Nat.le_of_ble_eq_true rfl) lk13 (fun _ h => h) rfl dX7_readMore_111 ?_
      refine lv_bipush (v := (nI 19)) hx hb dX7_readMore_114 (bi_19) ?_
      refine lv_iconst (v := (nI 5)) hx hb dX7_readMore_116 (ic_5) ?_
      refine lv_iload_n hx hb dX7_readMore_117 rfl (lv_at hl 1 rfl) ?_
      refine lv_imul hx hb dX7_readMore_118 ?_
      refine lv_iadd hx hb dX7_readMore_119 ?_
      refine lv_iload_n hx hb dX7_readMore_120 rfl (lv_at hl 0 rfl) ?_
      refine lv_iadd hx hb dX7_readMore_121 ?_
      refine lv_aload_n hx hb dX7_readMore_122 rfl (lv_at hl 2 rfl) ?_
      refine lv_iconst (v := (nI 0)) hx hb dX7_readMore_123 (ic_0) ?_
      refine lv_bipush (v := (nI 99)) hx hb dX7_readMore_124 (bi_99) ?_
      refine lv_iconst (v := (nI 0)) hx hb dX7_readMore_126 (ic_0) ?_
      obtain ⟨⟨r127, f_127⟩, hc127, hf⟩ := bd_e hf
      try dsimp only at hf
      refine cl_i_same (Wd := (wX7 G ad (mset 0 2 ((f_90 0 2) ||| ((nI 1) <<< ((((nI 5) * r72) + r90) &&& 31))) f_90))) (W' := (wX7 G ad f_127)) (va_runV (As := [.int (nI 0), .int (nI 99), .int (nI 0)]) (rest := [.int (((nI 19) + ((nI 5) * r72)) + r90), .ref (ad 2)]) hC (c_X7_other l G ad (mset 0 2 ((f_90 0 2) ||| ((nI 1) <<< ((((nI 5) * r72) + r90) &&& 31))) f_90) (nI 0) (nI 99) (nI 0) r127 f_127 hc127 _) (cwV 3 hts gX7_readMore_X7_other rfl rfl rfl (by decide +kernel) ⟨Nat.le_of_ble_eq_true rfl, Nat.le_of_ble_eq_true rfl⟩) ⟨Pc0_blind, va_recv hT hP (q0 := 0) (ci := 7) rfl rfl, fun U hU hW => Pc0_at hE hP hD hU hW⟩ rfl rfl hl.1 rfl (lv_room (Nat.le_of_ble_eq_true rfl)) dX7_readMore_127 ⟨Nat.zero_le _, Nat.zero_le _⟩) hS hA hD (fun H locs hP hD hS => ?_)
      obtain ⟨hg, hf⟩ := gd_e hf
      obtain ⟨g130, eg130, hf⟩ := bnd_e hf
      refine va_iast (f := f_127 2) hx hb hT hP hD hS 2 0 rfl rfl (inb_e hg) dX7_readMore_130 (fun H locs hP hD hS => ?_)
      rw [← eg130] at hP hD
      have hP : va_P G.1 vwCl (wX7 G ad (mrow 2 (g130) f_127)) H := hP
      have hD : va_D A (wX7 G ad (mrow 2 (g130) f_127)) := hD
      refine lv_goto (tgt := 189) hx hb dX7_readMore_131 (by decide) ?_
      have hK9 := K0_of hf hK
      exact hRet (mrow 2 (g130) f_127) _ _ _ _ hK9 dX7_readMore_189 hP hD hS
  · have hf := if_f hf hc
    refine lv_aload_n hx hb dX7_readMore_5 rfl (lv_at hl 0 rfl) ?_
    refine va_get (C := RX7) (T := TX7) (N := 34) (ci := 7) (v := .ref (ad 2)) hx hb hts inX7 hown hT hP 0 rfl rfl 2 (Nat.le_of_ble_eq_true rfl) lk13 (fun _ h => h) rfl dX7_readMore_6 ?_
    refine lv_aload_n hx hb dX7_readMore_9 rfl (lv_at hl 0 rfl) ?_
    refine va_get (C := RX7) (T := TX7) (N := 34) (ci := 7) (v := .int (f 0 1)) hx hb hts inX7 hown hT hP 0 rfl rfl 3 (Nat.le_of_ble_eq_true rfl) lk102 (fun _ h => h) rfl dX7_readMore_10 ?_
    refine lv_iload_n hx hb dX7_readMore_13 rfl (lv_at hl 1 rfl) ?_
    obtain ⟨hg, hf⟩ := gd_e hf
    obtain ⟨g14, eg14, hf⟩ := bnd_e hf
    refine va_iast (f := f 2) hx hb hT hP hD hS 2 0 rfl rfl (inb_e hg) dX7_readMore_14 (fun H locs hP hD hS => ?_)
    rw [← eg14] at hP hD
    have hP : va_P G.1 vwCl (wX7 G ad (mrow 2 (g14) f)) H := hP
    have hD : va_D A (wX7 G ad (mrow 2 (g14) f)) := hD
    refine lv_aload_n hx hb dX7_readMore_15 rfl (lv_at hl 0 rfl) ?_
    refine va_get (C := RX7) (T := TX7) (N := 34) (ci := 7) (v := .ref (ad 2)) hx hb hts inX7 hown hT hP 0 rfl rfl 2 (Nat.le_of_ble_eq_true rfl) lk13 (fun _ h => h) rfl dX7_readMore_16 ?_
    refine lv_iconst (v := (nI 3)) hx hb dX7_readMore_19 (ic_3) ?_
    refine lv_aload_n hx hb dX7_readMore_20 rfl (lv_at hl 0 rfl) ?_
    refine va_get (C := RX7) (T := TX7) (N := 34) (ci := 7) (v := .int (f 0 1)) hx hb hts inX7 hown hT hP 0 rfl rfl 3 (Nat.le_of_ble_eq_true rfl) lk102 (fun _ h => h) rfl dX7_readMore_21 ?_
    refine lv_iadd hx hb dX7_readMore_24 ?_
    refine lv_aload_n hx hb dX7_readMore_25 rfl (lv_at hl 0 rfl) ?_
    refine lv_iconst (v := (nI 0)) hx hb dX7_readMore_26 (ic_0) ?_
    refine lv_iconst (v := (nI 4)) hx hb dX7_readMore_27 (ic_4) ?_
    refine lv_iconst (v := (nI 0)) hx hb dX7_readMore_28 (ic_0) ?_
    obtain ⟨⟨r29, f_29⟩, hc29, hf⟩ := bd_e hf
    try dsimp only at hf
    refine cl_i_same (Wd := (wX7 G ad (mrow 2 (g14) f))) (W' := (wX7 G ad f_29)) (va_runV (As := [.int (nI 0), .int (nI 4), .int (nI 0)]) (rest := [.int ((nI 3) + (f 0 1)), .ref (ad 2)]) hC (c_X7_other l G ad (mrow 2 (g14) f) (nI 0) (nI 4) (nI 0) r29 f_29 hc29 _) (cwV 3 hts gX7_readMore_X7_other rfl rfl rfl (by decide +kernel) ⟨Nat.le_of_ble_eq_true rfl, Nat.le_of_ble_eq_true rfl⟩) ⟨Pc0_blind, va_recv hT hP (q0 := 0) (ci := 7) rfl rfl, fun U hU hW => Pc0_at hE hP hD hU hW⟩ rfl rfl hl.1 rfl (lv_room (Nat.le_of_ble_eq_true rfl)) dX7_readMore_29 ⟨Nat.zero_le _, Nat.zero_le _⟩) hS hA hD (fun H locs hP hD hS => ?_)
    obtain ⟨hg, hf⟩ := gd_e hf
    obtain ⟨g32, eg32, hf⟩ := bnd_e hf
    refine va_iast (f := f_29 2) hx hb hT hP hD hS 2 0 rfl rfl (inb_e hg) dX7_readMore_32 (fun H locs hP hD hS => ?_)
    rw [← eg32] at hP hD
    have hP : va_P G.1 vwCl (wX7 G ad (mrow 2 (g32) f_29)) H := hP
    have hD : va_D A (wX7 G ad (mrow 2 (g32) f_29)) := hD
    refine lv_aload_n hx hb dX7_readMore_33 rfl (lv_at hl 0 rfl) ?_
    refine va_get (C := RX7) (T := TX7) (N := 34) (ci := 7) (v := .ref (ad 2)) hx hb hts inX7 hown hT hP 0 rfl rfl 2 (Nat.le_of_ble_eq_true rfl) lk13 (fun _ h => h) rfl dX7_readMore_34 ?_
    refine lv_bipush (v := (nI 6)) hx hb dX7_readMore_37 (bi_6) ?_
    refine lv_aload_n hx hb dX7_readMore_39 rfl (lv_at hl 0 rfl) ?_
    refine va_get (C := RX7) (T := TX7) (N := 34) (ci := 7) (v := .int (f_29 0 1)) hx hb hts inX7 hown hT hP 0 rfl rfl 3 (Nat.le_of_ble_eq_true rfl) lk102 (fun _ h => h) rfl dX7_readMore_40 ?_
    refine lv_iadd hx hb dX7_readMore_43 ?_
    refine lv_aload_n hx hb dX7_readMore_44 rfl (lv_at hl 0 rfl) ?_
    refine lv_iconst (v := (nI 1)) hx hb dX7_readMore_45 (ic_1) ?_
    refine lv_bipush (v := (nI 9)) hx hb dX7_readMore_46 (bi_9) ?_
    refine lv_iconst (v := (nI 0)) hx hb dX7_readMore_48 (ic_0) ?_
    obtain ⟨⟨r49, f_49⟩, hc49, hf⟩ := bd_e hf
    try dsimp only at hf
    refine cl_i_same (Wd := (wX7 G ad (mrow 2 (g32) f_29))) (W' := (wX7 G ad f_49)) (va_runV (As := [.int (nI 1), .int (nI 9), .int (nI 0)]) (rest := [.int ((nI 6) + (f_29 0 1)), .ref (ad 2)]) hC (c_X7_other l G ad (mrow 2 (g32) f_29) (nI 1) (nI 9) (nI 0) r49 f_49 hc49 _) (cwV 3 hts gX7_readMore_X7_other rfl rfl rfl (by decide +kernel) ⟨Nat.le_of_ble_eq_true rfl, Nat.le_of_ble_eq_true rfl⟩) ⟨Pc0_blind, va_recv hT hP (q0 := 0) (ci := 7) rfl rfl, fun U hU hW => Pc0_at hE hP hD hU hW⟩ rfl rfl hl.1 rfl (lv_room (Nat.le_of_ble_eq_true rfl)) dX7_readMore_49 ⟨Nat.zero_le _, Nat.zero_le _⟩) hS hA hD (fun H locs hP hD hS => ?_)
    obtain ⟨hg, hf⟩ := gd_e hf
    obtain ⟨g52, eg52, hf⟩ := bnd_e hf
    refine va_iast (f := f_49 2) hx hb hT hP hD hS 2 0 rfl rfl (inb_e hg) dX7_readMore_52 (fun H locs hP hD hS => ?_)
    rw [← eg52] at hP hD
    have hP : va_P G.1 vwCl (wX7 G ad (mrow 2 (g52) f_49)) H := hP
    have hD : va_D A (wX7 G ad (mrow 2 (g52) f_49)) := hD
    refine lv_aload_n hx hb dX7_readMore_53 rfl (lv_at hl 0 rfl) ?_
    refine lv_dup hx hb dX7_readMore_54 rfl ?_
    refine va_get (C := RX7) (T := TX7) (N := 34) (ci := 7) (v := .int (f_49 0 1)) hx hb hts inX7 hown hT hP 0 rfl rfl 3 (Nat.le_of_ble_eq_true rfl) lk102 (fun _ h => h) rfl dX7_readMore_55 ?_
    refine lv_iconst (v := (nI 1)) hx hb dX7_readMore_58 (ic_1) ?_
    refine lv_iadd hx hb dX7_readMore_59 ?_
    refine va_put (C := RX7) (T := TX7) (N := 34) (ci := 7) (ty := .int) (v := .int ((f_49 0 1) + (nI 1))) hx hb hts inX7 tyX7 tyX7_ok nmX7 hown hT hP hD hS 0 rfl rfl 3 (Nat.le_of_ble_eq_true rfl) lk102 (fun _ h => h) rfl (by decide +kernel) rfl rfl (Nat.le_of_ble_eq_true rfl) dX7_readMore_60 (fun H locs hP hD hS => ?_)
    have hP : va_P G.1 vwCl (wX7 G ad (mset 0 1 ((f_49 0 1) + (nI 1)) (mrow 2 (g52) f_49))) H := hP
    have hD : va_D A (wX7 G ad (mset 0 1 ((f_49 0 1) + (nI 1)) (mrow 2 (g52) f_49))) := hD
    refine lv_goto (tgt := 189) hx hb dX7_readMore_63 (by decide) ?_
    have hK9 := K0_of hf hK
    exact hRet (mset 0 1 ((f_49 0 1) + (nI 1)) (mrow 2 (g52) f_49)) _ _ _ _ hK9 dX7_readMore_189 hP hD hS
noncomputable def p_X7_readLine_B96 (f : Mem) : Option (Mem) :=
  Option.bind (p_X7_step f) <| fun f_97 =>
  some f_97
noncomputable def p_X7_readLine_B59 (f : Mem) (x1 : Int32) : Option (Mem) :=
  Option.bind (p_X7_step f) <| fun f_60 =>
  if (f_60 0 7) ≤ 0 then
    (Option.bind (p_X7_readMore f_60 x1) <| fun f_73 =>
     if (f_73 0 7) = 0 then
       (if (f_73 0 11) = (nI 3) then
          (p_X7_readLine_B96 f_73)
        else
          (Option.bind (p_X7_fails f_73 (nI 2)) <| fun f_93 =>
           p_X7_readLine_B96 f_93))
     else
       (p_X7_readLine_B96 f_73))
  else
    (some f_60)
noncomputable def p_X7_readLine_B54 (f : Mem) (x1 : Int32) : Option (Mem) :=
  Option.bind (p_X7_fails f (nI 5)) <| fun f_56 =>
  p_X7_readLine_B59 f_56 x1
noncomputable def p_X7_readLine_B36 (f : Mem) (x1 : Int32) : Option (Mem) :=
  if x1 = (nI 6) then
    (gd (inb (nI 59) 60) <|
     if (f 2 (nI 59).toNatClampNeg) = (nI 6) then
       (p_X7_readLine_B54 f x1)
     else
       (p_X7_readLine_B59 f x1))
  else
    (p_X7_readLine_B59 f x1)
noncomputable def p_X7_readLine (f : Mem) : Option (Mem) :=
  Option.bind (p_X7_nameHere f) <| fun r1 =>
  Option.bind (p_X7_in ((r1).toInt64) (lN 0) (6 : Int64)) <| fun r11 =>
  if r11 = 0 then
    (Option.bind (p_X7_fails f (nI 2)) <| fun f_19 =>
     some f_19)
  else
    (if (nI 3) < r1 then
       (p_X7_readLine_B36 f r1)
     else
       (if (f 0 1) = (nI 3) then
          (p_X7_readLine_B54 f r1)
        else
          (p_X7_readLine_B36 f r1)))
set_option maxHeartbeats 4000000 in
set_option maxRecDepth 100000 in
theorem c_X7_readLine (l : Launch) (G : Gt) (ad : Nat → Nat) (f : Mem) (fz : Mem) (hf : p_X7_readLine f = some fz) (sz : Nat) : Met l yX7_readLine wsX7_readLine ({ frames := 7, cells := 0, slots := 0, locals := 147 }) (Pc0 G sz [.ref (ad 0)] (wX7 G ad f)) (Qv0 G (va_A (wX7 G ad f) sz) (wX7 G ad fz)) 0 0 (va_A (wX7 G ad f) sz) := by
  refine metP (Qf := fun A => Qv0 G A (wX7 G ad fz)) cX7_readLine 2 (none) (by decide) rfl (Nat.le_of_ble_eq_true rfl) ?_
  intro p e s m below meth c A ls hC hr hlocks hin hE hA hsz hP hD hS hl
  generalize hargs : ([.ref (ad 0)] : List Value).toArray = args at hC ⊢
  obtain ⟨hx, hb, hml, hown, hts⟩ := id hC
  have hT : va_K G.1 vwCl (tyL G) s := hE.1
  have hRet : ∀ (f9 : Mem) (H : Heap) (locs : List Loc) (ls : Array Slot) (pc : Nat) (hK9 : f9 = fz) (hdg : decode cX7_readLine pc = .ok (.return_, 1)), va_P G.1 vwCl (wX7 G ad f9) H → va_D A (wX7 G ad f9) → va_S A s.heap H locs → W p l e ({ frames := 7, cells := 0, slots := 0, locals := 147 }) s m args below meth c H locs 0 0 (MQ below (Qv0 G A (wX7 G ad fz)) args s 0 0 A) (F0 m pc ls []) := by
    intro f9 H locs ls pc hK9 hdg hP hD hS
    cases hK9
    exact W.vret hx hb hr (fun t ht hW => ⟨⟨(), rfl, trivial, by rw [ht]; exact hP, hD⟩, hS.F ht⟩) hS.2.2 hdg hlocks
  generalize MQ below (Qv0 G A (wX7 G ad fz)) args s 0 0 A = Q at hRet ⊢
  have lk54 := hts (.fieldLink RX7 54 "FeatherSharesModel" "broken" "I") (by decide +kernel)
  have inX7 : ∀ w ∈ u_ws RX7 TX7 34, w ∈ wsX7_readLine := by decide +kernel
  have lk63 := hts (.fieldLink RX7 63 "FeatherSharesModel" "token" "I") (by decide +kernel)
  have lk13 := hts (.fieldLink RX7 13 "FeatherSharesModel" "readPage" "[I") (by decide +kernel)
  have lk102 := hts (.fieldLink RX7 102 "FeatherSharesModel" "readGeese" "I") (by decide +kernel)
  have hl : lv_has ls 2 [(0, .ref (ad 0))] := hl
  have hK0 : fz = fz := rfl
  have hB96 : ∀ (f : Mem) (res : Mem) (hf : p_X7_readLine_B96 f = some res) (hK : res = fz), ∀ (H : Heap) (locs : List Loc) (ls : Array Slot), va_P G.1 vwCl (wX7 G ad f) H → va_D A (wX7 G ad f) → va_S A s.heap H locs → lv_has ls 2 [(0, .ref (ad 0))] → W p l e ({ frames := 7, cells := 0, slots := 0, locals := 147 }) s m args below meth c H locs 0 0 Q (F0 m 96 ls []) := by
    intro f res hf hK H locs ls hP hD hS hl
    unfold p_X7_readLine_B96 at hf
    refine lv_aload_n hx hb dX7_readLine_96 rfl (lv_at hl 0 rfl) ?_
    obtain ⟨f_97, hc97, hf⟩ := bd_e hf
    refine cl_v_same (Wd := (wX7 G ad f)) (W' := (wX7 G ad f_97)) (va_runV (As := []) (rest := []) hC (c_X7_step l G ad f f_97 hc97 _) (cwV 0 hts gX7_readLine_X7_step rfl rfl rfl (by decide +kernel) ⟨Nat.le_of_ble_eq_true rfl, Nat.le_of_ble_eq_true rfl⟩) ⟨Pc0_blind, va_recv hT hP (q0 := 0) (ci := 7) rfl rfl, fun U hU hW => Pc0_at hE hP hD hU hW⟩ rfl rfl hl.1 rfl (lv_room (Nat.le_of_ble_eq_true rfl)) dX7_readLine_97 ⟨Nat.zero_le _, Nat.zero_le _⟩) hS hA hD (fun H locs hP hD hS => ?_)
    have hK9 := K0_of hf hK
    exact hRet f_97 _ _ _ _ hK9 dX7_readLine_100 hP hD hS
  have hB59 : ∀ (f : Mem) (x1 : Int32) (res : Mem) (hf : p_X7_readLine_B59 f x1 = some res) (hK : res = fz), ∀ (H : Heap) (locs : List Loc) (ls : Array Slot), va_P G.1 vwCl (wX7 G ad f) H → va_D A (wX7 G ad f) → va_S A s.heap H locs → lv_has ls 2 [(0, .ref (ad 0)), (1, .int x1)] → W p l e ({ frames := 7, cells := 0, slots := 0, locals := 147 }) s m args below meth c H locs 0 0 Q (F0 m 59 ls []) := by
    intro f x1 res hf hK H locs ls hP hD hS hl
    unfold p_X7_readLine_B59 at hf
    refine lv_aload_n hx hb dX7_readLine_59 rfl (lv_at hl 0 rfl) ?_
    obtain ⟨f_60, hc60, hf⟩ := bd_e hf
    refine cl_v_same (Wd := (wX7 G ad f)) (W' := (wX7 G ad f_60)) (va_runV (As := []) (rest := []) hC (c_X7_step l G ad f f_60 hc60 _) (cwV 0 hts gX7_readLine_X7_step rfl rfl rfl (by decide +kernel) ⟨Nat.le_of_ble_eq_true rfl, Nat.le_of_ble_eq_true rfl⟩) ⟨Pc0_blind, va_recv hT hP (q0 := 0) (ci := 7) rfl rfl, fun U hU hW => Pc0_at hE hP hD hU hW⟩ rfl rfl hl.1 rfl (lv_room (Nat.le_of_ble_eq_true rfl)) dX7_readLine_60 ⟨Nat.zero_le _, Nat.zero_le _⟩) hS hA hD (fun H locs hP hD hS => ?_)
    refine lv_aload_n hx hb dX7_readLine_63 rfl (lv_at hl 0 rfl) ?_
    refine va_get (C := RX7) (T := TX7) (N := 34) (ci := 7) (v := .int (f_60 0 7)) hx hb hts inX7 hown hT hP 0 rfl rfl 10 (Nat.le_of_ble_eq_true rfl) lk54 (fun _ h => h) rfl dX7_readLine_64 ?_
    refine lv_if_le (tgt := 71) hx hb dX7_readLine_67 (by decide) (fun hc => ?_) (fun hc => ?_)
    · have hf := if_t hf hc
      refine lv_aload_n hx hb dX7_readLine_71 rfl (lv_at hl 0 rfl) ?_
      refine lv_iload_n hx hb dX7_readLine_72 rfl (lv_at hl 1 rfl) ?_
      obtain ⟨f_73, hc73, hf⟩ := bd_e hf
      refine cl_v_same (Wd := (wX7 G ad f_60)) (W' := (wX7 G ad f_73)) (va_runV (As := [.int x1]) (rest := []) hC (c_X7_readMore l G ad f_60 x1 f_73 hc73 _) (cwV 1 hts gX7_readLine_X7_readMore rfl rfl rfl (by decide +kernel) ⟨Nat.le_of_ble_eq_true rfl, Nat.le_of_ble_eq_true rfl⟩) ⟨Pc0_blind, va_recv hT hP (q0 := 0) (ci := 7) rfl rfl, fun U hU hW => Pc0_at hE hP hD hU hW⟩ rfl rfl hl.1 rfl (lv_room (Nat.le_of_ble_eq_true rfl)) dX7_readLine_73 ⟨Nat.zero_le _, Nat.zero_le _⟩) hS hA hD (fun H locs hP hD hS => ?_)
      refine lv_aload_n hx hb dX7_readLine_76 rfl (lv_at hl 0 rfl) ?_
      refine va_get (C := RX7) (T := TX7) (N := 34) (ci := 7) (v := .int (f_73 0 7)) hx hb hts inX7 hown hT hP 0 rfl rfl 10 (Nat.le_of_ble_eq_true rfl) lk54 (fun _ h => h) rfl dX7_readLine_77 ?_
      refine lv_if_ne (tgt := 96) hx hb dX7_readLine_80 (by decide) (fun hc => ?_) (fun hc => ?_)
      · have hf := if_f hf hc
        exact hB96 f_73 _ hf hK _ _ _ hP hD hS (lv_sub hl [0] rfl)
      · have hf := if_t hf hc
        refine lv_aload_n hx hb dX7_readLine_83 rfl (lv_at hl 0 rfl) ?_
        refine va_get (C := RX7) (T := TX7) (N := 34) (ci := 7) (v := .int (f_73 0 11)) hx hb hts inX7 hown hT hP 0 rfl rfl 14 (Nat.le_of_ble_eq_true rfl) lk63 (fun _ h => h) rfl dX7_readLine_84 ?_
        refine lv_iconst (v := (nI 3)) hx hb dX7_readLine_87 (ic_3) ?_
        refine lv_icmp_eq (tgt := 96) hx hb dX7_readLine_88 (by decide) (fun hc => ?_) (fun hc => ?_)
        · have hf := if_t hf hc
          exact hB96 f_73 _ hf hK _ _ _ hP hD hS (lv_sub hl [0] rfl)
        · have hf := if_f hf hc
          refine lv_aload_n hx hb dX7_readLine_91 rfl (lv_at hl 0 rfl) ?_
          refine lv_iconst (v := (nI 2)) hx hb dX7_readLine_92 (ic_2) ?_
          obtain ⟨f_93, hc93, hf⟩ := bd_e hf
          refine cl_v_same (Wd := (wX7 G ad f_73)) (W' := (wX7 G ad f_93)) (va_runV (As := [.int (nI 2)]) (rest := []) hC (c_X7_fails l G ad f_73 (nI 2) f_93 hc93 _) (cwV 1 hts gX7_readLine_X7_fails rfl rfl rfl (by decide +kernel) ⟨Nat.le_of_ble_eq_true rfl, Nat.le_of_ble_eq_true rfl⟩) ⟨Pc0_blind, va_recv hT hP (q0 := 0) (ci := 7) rfl rfl, fun U hU hW => Pc0_at hE hP hD hU hW⟩ rfl rfl hl.1 rfl (lv_room (Nat.le_of_ble_eq_true rfl)) dX7_readLine_93 ⟨Nat.zero_le _, Nat.zero_le _⟩) hS hA hD (fun H locs hP hD hS => ?_)
          exact hB96 f_93 _ hf hK _ _ _ hP hD hS (lv_sub hl [0] rfl)
    · have hf := if_f hf hc
      have hK9 := K0_of hf hK
      exact hRet f_60 _ _ _ _ hK9 dX7_readLine_70 hP hD hS
  have hB54 : ∀ (f : Mem) (x1 : Int32) (res : Mem) (hf : p_X7_readLine_B54 f x1 = some res) (hK : res = fz), ∀ (H : Heap) (locs : List Loc) (ls : Array Slot), va_P G.1 vwCl (wX7 G ad f) H → va_D A (wX7 G ad f) → va_S A s.heap H locs → lv_has ls 2 [(0, .ref (ad 0)), (1, .int x1)] → W p l e ({ frames := 7, cells := 0, slots := 0, locals := 147 }) s m args below meth c H locs 0 0 Q (F0 m 54 ls []) := by
    intro f x1 res hf hK H locs ls hP hD hS hl
    unfold p_X7_readLine_B54 at hf
    refine lv_aload_n hx hb dX7_readLine_54 rfl (lv_at hl 0 rfl) ?_
    refine lv_iconst (v := (nI 5)) hx hb dX7_readLine_55 (ic_5) ?_
    obtain ⟨f_56, hc56, hf⟩ := bd_e hf
    refine cl_v_same (Wd := (wX7 G ad f)) (W' := (wX7 G ad f_56)) (va_runV (As := [.int (nI 5)]) (rest := []) hC (c_X7_fails l G ad f (nI 5) f_56 hc56 _) (cwV 1 hts gX7_readLine_X7_fails rfl rfl rfl (by decide +kernel) ⟨Nat.le_of_ble_eq_true rfl, Nat.le_of_ble_eq_true rfl⟩) ⟨Pc0_blind, va_recv hT hP (q0 := 0) (ci := 7) rfl rfl, fun U hU hW => Pc0_at hE hP hD hU hW⟩ rfl rfl hl.1 rfl (lv_room (Nat.le_of_ble_eq_true rfl)) dX7_readLine_56 ⟨Nat.zero_le _, Nat.zero_le _⟩) hS hA hD (fun H locs hP hD hS => ?_)
    exact hB59 f_56 x1 _ hf hK _ _ _ hP hD hS (lv_sub hl [0, 1] rfl)
  have hB36 : ∀ (f : Mem) (x1 : Int32) (res : Mem) (hf : p_X7_readLine_B36 f x1 = some res) (hK : res = fz), ∀ (H : Heap) (locs : List Loc) (ls : Array Slot), va_P G.1 vwCl (wX7 G ad f) H → va_D A (wX7 G ad f) → va_S A s.heap H locs → lv_has ls 2 [(0, .ref (ad 0)), (1, .int x1)] → W p l e ({ frames := 7, cells := 0, slots := 0, locals := 147 }) s m args below meth c H locs 0 0 Q (F0 m 36 ls []) := by
    intro f x1 res hf hK H locs ls hP hD hS hl
    unfold p_X7_readLine_B36 at hf
    refine lv_iload_n hx hb dX7_readLine_36 rfl (lv_at hl 1 rfl) ?_
    refine lv_bipush (v := (nI 6)) hx hb dX7_readLine_37 (bi_6) ?_
    refine lv_icmp_ne (tgt := 59) hx hb dX7_readLine_39 (by decide) (fun hc => ?_) (fun hc => ?_)
    · have hf := if_f hf hc
      exact hB59 f x1 _ hf hK _ _ _ hP hD hS (lv_sub hl [0, 1] rfl)
    · have hf := if_t hf hc
      refine lv_aload_n hx hb dX7_readLine_42 rfl (lv_at hl 0 rfl) ?_
      refine va_get (C := RX7) (T := TX7) (N := 34) (ci := 7) (v := .ref (ad 2)) hx hb hts inX7 hown hT hP 0 rfl rfl 2 (Nat.le_of_ble_eq_true rfl) lk13 (fun _ h => h) rfl dX7_readLine_43 ?_
      refine lv_bipush (v := (nI 59)) hx hb dX7_readLine_46 (bi_59) ?_
      obtain ⟨hg, hf⟩ := gd_e hf
      refine va_iald (f := f 2) hx hb hT hP 2 0 rfl rfl (inb_e hg) dX7_readLine_48 ?_
      refine lv_bipush (v := (nI 6)) hx hb dX7_readLine_49 (bi_6) ?_
      refine lv_icmp_ne (tgt := 59) hx hb dX7_readLine_51 (by decide) (fun hc => ?_) (fun hc => ?_)
      · have hf := if_f hf hc
        exact hB59 f x1 _ hf hK _ _ _ hP hD hS (lv_sub hl [0, 1] rfl)
      · have hf := if_t hf hc
        exact hB54 f x1 _ hf hK _ _ _ hP hD hS (lv_sub hl [0, 1] rfl)
  obtain ⟨res, hres, hK⟩ : ∃ res, p_X7_readLine f = some res ∧ res = fz := ⟨_, hf, rfl⟩
  clear hf
  have hf := hres
  clear hres
  unfold p_X7_readLine at hf
  refine lv_aload_n hx hb dX7_readLine_0 rfl (lv_at hl 0 rfl) ?_
  obtain ⟨r1, hc1, hf⟩ := bd_e hf
  refine cl_i_same (Wd := (wX7 G ad f)) (W' := (wX7 G ad f)) (va_runV (As := []) (rest := []) hC (c_X7_nameHere l G ad f r1 hc1 _) (cwV 0 hts gX7_readLine_X7_nameHere rfl rfl rfl (by decide +kernel) ⟨Nat.le_of_ble_eq_true rfl, Nat.le_of_ble_eq_true rfl⟩) ⟨Pc0_blind, va_recv hT hP (q0 := 0) (ci := 7) rfl rfl, fun U hU hW => Pc0_at hE hP hD hU hW⟩ rfl rfl hl.1 rfl (lv_room (Nat.le_of_ble_eq_true rfl)) dX7_readLine_1 ⟨Nat.zero_le _, Nat.zero_le _⟩) hS hA hD (fun H locs hP hD hS => ?_)
  refine lv_istore_n (lv' := [(1, .int r1), (0, .ref (ad 0))]) hx hb dX7_readLine_4 rfl hl (by decide) rfl (fun ls hl => ?_)
  refine lv_iload_n hx hb dX7_readLine_5 rfl (lv_at hl 0 rfl) ?_
  refine lv_i2l (v := ((r1).toInt64)) hx hb dX7_readLine_6 rfl ?_
  refine lv_lconst (v := (lN 0)) hx hb dX7_readLine_7 rfl ?_
  refine W.ldc2 (v := (6 : Int64)) hx hb hown (hts (.constantLong RX7 117 (6 : Int64)) (by decide +kernel)) rfl dX7_readLine_8 ?_
  refine W.eq (g2 := F0 m 11 ls [.long (6 : Int64), .long (lN 0), .long ((r1).toInt64)]) rfl ?_
  obtain ⟨r11, hc11, hf⟩ := bd_e hf
  refine cl_z_ro (Wd := (wX7 G ad f)) (Wc := ([] : va_W)) [] rfl (va_runS (As := [.long ((r1).toInt64), .long (lN 0), .long (6 : Int64)]) (rest := []) hC (c_X7_in l G ((r1).toInt64) (lN 0) (6 : Int64) r11 hc11 _) (va_cwS 3 hts gX7_readLine_X7_in rfl rfl rfl (by decide +kernel) ⟨Nat.le_of_ble_eq_true rfl, Nat.le_of_ble_eq_true rfl⟩) ⟨Pc0_blind, fun U hU hW => Pc0_at (Wd := ([] : va_W)) hE (hP.subm [] rfl) (hD.sub [] (by decide) rfl) hU hW⟩ rfl rfl hl.1 rfl (lv_room (Nat.le_of_ble_eq_true rfl)) dX7_readLine_11 ⟨Nat.zero_le _, Nat.zero_le _⟩) hS hA hP hD (fun H locs hn11 hP hD hS => ?_)
  refine lv_if_ne (tgt := 23) hx hb dX7_readLine_14 (by decide) (fun hc => ?_) (fun hc => ?_)
  · have hf := if_f hf hc
    refine lv_iload_n hx hb dX7_readLine_23 rfl (lv_at hl 0 rfl) ?_
    refine lv_iconst (v := (nI 3)) hx hb dX7_readLine_24 (ic_3) ?_
    refine lv_icmp_gt (tgt := 36) hx hb dX7_readLine_25 (by decide) (fun hc => ?_) (fun hc => ?_)
    · have hf := if_t hf hc
      exact hB36 f r1 _ hf hK _ _ _ hP hD hS (lv_sub hl [1, 0] rfl)
    · have hf := if_f hf hc
      refine lv_aload_n hx hb dX7_readLine_28 rfl (lv_at hl 1 rfl) ?_
      refine va_get (C := RX7) (T := TX7) (N := 34) (ci := 7) (v := .int (f 0 1)) hx hb hts inX7 hown hT hP 0 rfl rfl 3 (Nat.le_of_ble_eq_true rfl) lk102 (fun _ h => h) rfl dX7_readLine_29 ?_
      refine lv_iconst (v := (nI 3)) hx hb dX7_readLine_32 (ic_3) ?_
      refine lv_icmp_eq (tgt := 54) hx hb dX7_readLine_33 (by decide) (fun hc => ?_) (fun hc => ?_)
      · have hf := if_t hf hc
        exact hB54 f r1 _ hf hK _ _ _ hP hD hS (lv_sub hl [1, 0] rfl)
      · have hf := if_f hf hc
        exact hB36 f r1 _ hf hK _ _ _ hP hD hS (lv_sub hl [1, 0] rfl)
  · have hf := if_t hf hc
    refine lv_aload_n hx hb dX7_readLine_17 rfl (lv_at hl 1 rfl) ?_
    refine lv_iconst (v := (nI 2)) hx hb dX7_readLine_18 (ic_2) ?_
    obtain ⟨f_19, hc19, hf⟩ := bd_e hf
    refine cl_v_same (Wd := (wX7 G ad f)) (W' := (wX7 G ad f_19)) (va_runV (As := [.int (nI 2)]) (rest := []) hC (c_X7_fails l G ad f (nI 2) f_19 hc19 _) (cwV 1 hts gX7_readLine_X7_fails rfl rfl rfl (by decide +kernel) ⟨Nat.le_of_ble_eq_true rfl, Nat.le_of_ble_eq_true rfl⟩) ⟨Pc0_blind, va_recv hT hP (q0 := 0) (ci := 7) rfl rfl, fun U hU hW => Pc0_at hE hP hD hU hW⟩ rfl rfl hl.1 rfl (lv_room (Nat.le_of_ble_eq_true rfl)) dX7_readLine_19 ⟨Nat.zero_le _, Nat.zero_le _⟩) hS hA hD (fun H locs hP hD hS => ?_)
    have hK9 := K0_of hf hK
    exact hRet f_19 _ _ _ _ hK9 dX7_readLine_22 hP hD hS
noncomputable def p_X7_text_L135 (x1 : Int32) (z : Int32 × Mem) : Option ((Int32 × Mem) ⊕ Mem) :=
  match z with
  | (x2, f_) =>
    if (nI 60) ≤ x2 then
      (some (Sum.inr f_))
    else
      (gd (inb x2 60) <|
       gd (inb x2 360) <|
       bnd (upd (f_ 1) x2.toNatClampNeg (f_ 2 x2.toNatClampNeg)) <| fun g152 =>
       some (Sum.inl ((x2 + nI 1), (mrow 1 (g152) f_))))
noncomputable def p_X7_text_B105 (f : Mem) (x1 : Int32) : Option (Int32 × Mem) :=
  if (f 0 7) ≤ 0 then
    (Option.bind (lp (p_X7_text_L135 x1) ((nI 0), (mset 0 6 (f 0 7) (mset 0 5 (nI 0) f)))) <| fun f_135 =>
     gd (inb (nI 0) 2) <|
     gd (inb (nI 1) 2) <|
     some (x1, (mrow 8 ((upd ((upd (f_135 8) (nI 0).toNatClampNeg (nI 0))) (nI 1).toNatClampNeg (nI 0))) (mrow 8 ((upd (f_135 8) (nI 0).toNatClampNeg (nI 0))) (mset 0 21 (nI 0) (mset 0 0 (f_135 0 1) f_135))))))
  else
    (some (((-10 : Int32) - (f 0 8)), (mset 0 6 (f 0 7) (mset 0 5 (nI 0) f))))
noncomputable def p_X7_text_B81 (f : Mem) (x1 : Int32) : Option (Int32 × Mem) :=
  if (f 0 7) = 0 then
    (if (f 0 4) < (f 0 1) then
       (p_X7_text_B105 f x1)
     else
       (Option.bind (p_X7_fails f (nI 6)) <| fun f_102 =>
        p_X7_text_B105 f_102 x1))
  else
    (p_X7_text_B105 f x1)
noncomputable def p_X7_text_L34 (x1 : Int32) (z : Int32 × Mem) : Option ((Int32 × Mem) ⊕ Mem) :=
  match z with
  | (x2, f_) =>
    if (nI 60) ≤ x2 then
      (some (Sum.inr f_))
    else
      (gd (inb x2 60) <|
       bnd (upd (f_ 2) x2.toNatClampNeg (nI 0)) <| fun g46 =>
       some (Sum.inl ((x2 + nI 1), (mrow 2 (g46) f_))))
noncomputable def p_X7_text_L57  (z : Int32 × Mem) : Option ((Int32 × Mem) ⊕ (Int32 × Mem)) :=
  match z with
  | (x1, f_) =>
    if (f_ 0 7) = 0 then
      (if (f_ 0 11) = 0 then
         (some (Sum.inr (x1, f_)))
       else
         (Option.bind (p_X7_readLine f_) <| fun f_72 =>
          some (Sum.inl ((x1 + nI 1), f_72))))
    else
      (some (Sum.inr (x1, f_)))
noncomputable def p_X7_text (f : Mem) : Option (Int32 × Mem) :=
  Option.bind (lp (p_X7_text_L34 (nI 0)) ((nI 0), (mset 0 4 (-1 : Int32) (mset 0 3 (nI 0) (mset 0 2 (nI 0) (mset 0 1 (nI 0) (mset 0 9 (nI 0) (mset 0 7 (nI 0) f)))))))) <| fun f_34 =>
  Option.bind (p_X7_step f_34) <| fun f_54 =>
  Option.bind (lp (p_X7_text_L57) ((nI 0), f_54)) <| fun (y1_57, f_57) =>
  p_X7_text_B81 f_57 y1_57
set_option maxHeartbeats 4000000 in
set_option maxRecDepth 100000 in
theorem c_X7_text (l : Launch) (G : Gt) (ad : Nat → Nat) (f : Mem) (r : Int32) (fz : Mem) (hf : p_X7_text f = some (r, fz)) (sz : Nat) : Met l yX7_text wsX7_text ({ frames := 8, cells := 0, slots := 0, locals := 168 }) (Pc0 G sz [.ref (ad 0)] (wX7 G ad f)) (Qi0 G (va_A (wX7 G ad f) sz) r (wX7 G ad fz)) 0 0 (va_A (wX7 G ad f) sz) := by
  refine metP (Qf := fun A => Qi0 G A r (wX7 G ad fz)) cX7_text 3 (some .int) (by decide) rfl (Nat.le_of_ble_eq_true rfl) ?_
  intro p e s m below meth c A ls hC hr hlocks hin hE hA hsz hP hD hS hl
  generalize hargs : ([.ref (ad 0)] : List Value).toArray = args at hC ⊢
  obtain ⟨hx, hb, hml, hown, hts⟩ := id hC
  have hT : va_K G.1 vwCl (tyL G) s := hE.1
  have hRet : ∀ (r9 : Int32) (f9 : Mem) (H : Heap) (locs : List Loc) (ls : Array Slot) (pc : Nat) (hK9 : (r9, f9) = (r, fz)) (hdg : decode cX7_text pc = .ok (.ireturn, 1)), va_P G.1 vwCl (wX7 G ad f9) H → va_D A (wX7 G ad f9) → va_S A s.heap H locs → W p l e ({ frames := 8, cells := 0, slots := 0, locals := 168 }) s m args below meth c H locs 0 0 (MQ below (Qi0 G A r (wX7 G ad fz)) args s 0 0 A) (F0 m pc ls [.int r9]) := by
    intro r9 f9 H locs ls pc hK9 hdg hP hD hS
    cases hK9
    exact W.iret hx hb hr (fun t ht hW => ⟨⟨r, (), rfl, rfl, by rw [ht]; exact hP, hD⟩, hS.F ht⟩) hS.2.2 hdg hlocks
  generalize MQ below (Qi0 G A r (wX7 G ad fz)) args s 0 0 A = Q at hRet ⊢
  have lk50 := hts (.fieldLink RX7 50 "FeatherSharesModel" "taped" "I") (by decide +kernel)
  have inX7 : ∀ w ∈ u_ws RX7 TX7 34, w ∈ wsX7_text := by decide +kernel
  have lk54 := hts (.fieldLink RX7 54 "FeatherSharesModel" "broken" "I") (by decide +kernel)
  have lk125 := hts (.fieldLink RX7 125 "FeatherSharesModel" "fault" "I") (by decide +kernel)
  have lk7 := hts (.fieldLink RX7 7 "FeatherSharesModel" "state" "[I") (by decide +kernel)
  have lk13 := hts (.fieldLink RX7 13 "FeatherSharesModel" "readPage" "[I") (by decide +kernel)
  have lk102 := hts (.fieldLink RX7 102 "FeatherSharesModel" "readGeese" "I") (by decide +kernel)
  have lk128 := hts (.fieldLink RX7 128 "FeatherSharesModel" "gooseMany" "I") (by decide +kernel)
  have lk131 := hts (.fieldLink RX7 131 "FeatherSharesModel" "seenMany" "I") (by decide +kernel)
  have lk31 := hts (.fieldLink RX7 31 "FeatherSharesModel" "isKept" "[Z") (by decide +kernel)
  have lk60 := hts (.fieldLink RX7 60 "FeatherSharesModel" "brokenAt" "I") (by decide +kernel)
  have lk95 := hts (.fieldLink RX7 95 "FeatherSharesModel" "high" "I") (by decide +kernel)
  have lk66 := hts (.fieldLink RX7 66 "FeatherSharesModel" "spot" "I") (by decide +kernel)
  have lk105 := hts (.fieldLink RX7 105 "FeatherSharesModel" "sharesTold" "I") (by decide +kernel)
  have lk108 := hts (.fieldLink RX7 108 "FeatherSharesModel" "moneyTold" "I") (by decide +kernel)
  have lk63 := hts (.fieldLink RX7 63 "FeatherSharesModel" "token" "I") (by decide +kernel)
  have hl : lv_has ls 3 [(0, .ref (ad 0))] := hl
  have hK0 : (r, fz) = (r, fz) := rfl
  have hB105 : ∀ (f : Mem) (x1 : Int32) (res : Int32 × Mem) (hf : p_X7_text_B105 f x1 = some res) (hK : res = (r, fz)), ∀ (H : Heap) (locs : List Loc) (ls : Array Slot), va_P G.1 vwCl (wX7 G ad f) H → va_D A (wX7 G ad f) → va_S A s.heap H locs → lv_has ls 3 [(0, .ref (ad 0)), (1, .int x1)] → W p l e ({ frames := 8, cells := 0, slots := 0, locals := 168 }) s m args below meth c H locs 0 0 Q (F0 m 105 ls []) := by
    intro f x1 res hf hK H locs ls hP hD hS hl
    unfold p_X7_text_B105 at hf
    refine lv_aload_n hx hb dX7_text_105 rfl (lv_at hl 0 rfl) ?_
    refine lv_iconst (v := (nI 0)) hx hb dX7_text_106 (ic_0) ?_
    refine va_put (C := RX7) (T := TX7) (N := 34) (ci := 7) (ty := .int) (v := .int (nI 0)) hx hb hts inX7 tyX7 tyX7_ok nmX7 hown hT hP hD hS 0 rfl rfl 8 (Nat.le_of_ble_eq_true rfl) lk50 (fun _ h => h) rfl (by decide +kernel) rfl rfl (Nat.le_of_ble_eq_true rfl) dX7_text_107 (fun H locs hP hD hS => ?_)
    have hP : va_P G.1 vwCl (wX7 G ad (mset 0 5 (nI 0) f)) H := hP
    have hD : va_D A (wX7 G ad (mset 0 5 (nI 0) f)) := hD
    refine lv_aload_n hx hb dX7_text_110 rfl (lv_at hl 0 rfl) ?_
    refine lv_aload_n hx hb dX7_text_111 rfl (lv_at hl 0 rfl) ?_
    refine va_get (C := RX7) (T := TX7) (N := 34) (ci := 7) (v := .int (f 0 7)) hx hb hts inX7 hown hT hP 0 rfl rfl 10 (Nat.le_of_ble_eq_true rfl) lk54 (fun _ h => h) rfl dX7_text_112 ?_
    refine va_put (C := RX7) (T := TX7) (N := 34) (ci := 7) (ty := .int) (v := .int (f 0 7)) hx hb hts inX7 tyX7 tyX7_ok nmX7 hown hT hP hD hS 0 rfl rfl 9 (Nat.le_of_ble_eq_true rfl) lk125 (fun _ h => h) rfl (by decide +kernel) rfl rfl (Nat.le_of_ble_eq_true rfl) dX7_text_115 (fun H locs hP hD hS => ?_)
    have hP : va_P G.1 vwCl (wX7 G ad (mset 0 6 (f 0 7) (mset 0 5 (nI 0) f))) H := hP
    have hD : va_D A (wX7 G ad (mset 0 6 (f 0 7) (mset 0 5 (nI 0) f))) := hD
    refine lv_aload_n hx hb dX7_text_118 rfl (lv_at hl 0 rfl) ?_
    refine va_get (C := RX7) (T := TX7) (N := 34) (ci := 7) (v := .int (f 0 7)) hx hb hts inX7 hown hT hP 0 rfl rfl 10 (Nat.le_of_ble_eq_true rfl) lk54 (fun _ h => h) rfl dX7_text_119 ?_
    refine lv_if_le (tgt := 133) hx hb dX7_text_122 (by decide) (fun hc => ?_) (fun hc => ?_)
    · have hf := if_t hf hc
      refine lv_iconst (v := (nI 0)) hx hb dX7_text_133 (ic_0) ?_
      refine lv_istore_n (lv' := [(2, .int (nI 0)), (0, .ref (ad 0)), (1, .int x1)]) hx hb dX7_text_134 rfl hl (by decide) rfl (fun ls hl => ?_)
      obtain ⟨f_135, hlp, hf⟩ := bd_e hf
      refine lp_W1 (p_X7_text_L135 x1) (fun z => match z with | (x2, f_) => ∀ (H : Heap) (locs : List Loc) (ls : Array Slot), va_P G.1 vwCl (wX7 G ad f_) H → va_D A (wX7 G ad f_) → va_S A s.heap H locs → lv_has ls 3 [(0, .ref (ad 0)), (1, .int x1), (2, .int x2)] → W p l e ({ frames := 8, cells := 0, slots := 0, locals := 168 }) s m args below meth c H locs 0 0 Q (F0 m 135 ls [])) (fun (f_135 : Mem) => ∀ (H : Heap) (locs : List Loc) (ls : Array Slot), va_P G.1 vwCl (wX7 G ad f_135) H → va_D A (wX7 G ad f_135) → va_S A s.heap H locs → lv_has ls 3 [(0, .ref (ad 0)), (1, .int x1)] → W p l e ({ frames := 8, cells := 0, slots := 0, locals := 168 }) s m args below meth c H locs 0 0 Q (F0 m 159 ls [])) ?_ hlp ?_ _ _ _ hP hD hS (lv_sub hl [1, 2, 0] rfl)
      · clear hlp hf hK hP hD hS hl
        intro K135 hW135 hX135 
        rintro ⟨x2, f_⟩ res hf hK H locs ls hP hD hS hl
        unfold p_X7_text_L135 at hf
        dsimp only at hf
        refine lv_iload_n hx hb dX7_text_135 rfl (lv_at hl 2 rfl) ?_
        refine lv_bipush (v := (nI 60)) hx hb dX7_text_136 (bi_60) ?_
        refine lv_icmp_ge (tgt := 159) hx hb dX7_text_138 (by decide) (fun hc => ?_) (fun hc => ?_)
        · have hf := if_t hf hc
          have hK9 := K_of hf hK
          have hK9 := hX135 _ hK9
          exact hK9 _ _ _ hP hD hS (lv_sub hl [0, 1] rfl)
        · have hf := if_f hf hc
          refine lv_aload_n hx hb dX7_text_141 rfl (lv_at hl 0 rfl) ?_
          refine va_get (C := RX7) (T := TX7) (N := 34) (ci := 7) (v := .ref (ad 1)) hx hb hts inX7 hown hT hP 0 rfl rfl 0 (Nat.le_of_ble_eq_true rfl) lk7 (fun _ h => h) rfl dX7_text_142 ?_
          refine lv_iload_n hx hb dX7_text_145 rfl (lv_at hl 2 rfl) ?_
          refine lv_aload_n hx hb dX7_text_146 rfl (lv_at hl 0 rfl) ?_
          refine va_get (C := RX7) (T := TX7) (N := 34) (ci := 7) (v := .ref (ad 2)) hx hb hts inX7 hown hT hP 0 rfl rfl 2 (Nat.le_of_ble_eq_true rfl) lk13 (fun _ h => h) rfl dX7_text_147 ?_
          refine lv_iload_n hx hb dX7_text_150 rfl (lv_at hl 2 rfl) ?_
          obtain ⟨hg, hf⟩ := gd_e hf
          refine va_iald (f := f_ 2) hx hb hT hP 2 0 rfl rfl (inb_e hg) dX7_text_151 ?_
          obtain ⟨hg, hf⟩ := gd_e hf
          obtain ⟨g152, eg152, hf⟩ := bnd_e hf
          refine va_iast (f := f_ 1) hx hb hT hP hD hS 1 0 rfl rfl (inb_e hg) dX7_text_152 (fun H locs hP hD hS => ?_)
          rw [← eg152] at hP hD
          have hP : va_P G.1 vwCl (wX7 G ad (mrow 1 (g152) f_)) H := hP
          have hD : va_D A (wX7 G ad (mrow 1 (g152) f_)) := hD
          refine lv_iinc (v := (x2 + nI 1)) (lv' := [(2, .int (x2 + nI 1)), (0, .ref (ad 0)), (1, .int x1)]) hx hb dX7_text_153 hl (k := 2) rfl (ii_x 1 _) (by decide) rfl (fun ls hl => ?_)
          refine lv_goto (tgt := 135) hx hb dX7_text_156 (by decide) ?_
          have hK9 := K_of hf hK
          have hK9 := hW135 _ hK9
          exact hK9 _ _ _ hP hD hS (lv_sub hl [1, 2, 0] rfl)
      · try dsimp only at hf
        show ∀ (H : Heap) (locs : List Loc) (ls : Array Slot), va_P G.1 vwCl (wX7 G ad f_135) H → va_D A (wX7 G ad f_135) → va_S A s.heap H locs → lv_has ls 3 [(0, .ref (ad 0)), (1, .int x1)] → W p l e ({ frames := 8, cells := 0, slots := 0, locals := 168 }) s m args below meth c H locs 0 0 Q (F0 m 159 ls [])
        intro H locs ls hP hD hS hl
        refine lv_aload_n hx hb dX7_text_159 rfl (lv_at hl 0 rfl) ?_
        refine lv_aload_n hx hb dX7_text_160 rfl (lv_at hl 0 rfl) ?_
        refine va_get (C := RX7) (T := TX7) (N := 34) (ci := 7) (v := .int (f_135 0 1)) hx hb hts inX7 hown hT hP 0 rfl rfl 3 (Nat.le_of_ble_eq_true rfl) lk102 (fun _ h => h) rfl dX7_text_161 ?_
        refine va_put (C := RX7) (T := TX7) (N := 34) (ci := 7) (ty := .int) (v := .int (f_135 0 1)) hx hb hts inX7 tyX7 tyX7_ok nmX7 hown hT hP hD hS 0 rfl rfl 1 (Nat.le_of_ble_eq_true rfl) lk128 (fun _ h => h) rfl (by decide +kernel) rfl rfl (Nat.le_of_ble_eq_true rfl) dX7_text_164 (fun H locs hP hD hS => ?_)
        have hP : va_P G.1 vwCl (wX7 G ad (mset 0 0 (f_135 0 1) f_135)) H := hP
        have hD : va_D A (wX7 G ad (mset 0 0 (f_135 0 1) f_135)) := hD
        refine lv_aload_n hx hb dX7_text_167 rfl (lv_at hl 0 rfl) ?_
        refine lv_iconst (v := (nI 0)) hx hb dX7_text_168 (ic_0) ?_
        refine va_put (C := RX7) (T := TX7) (N := 34) (ci := 7) (ty := .int) (v := .int (nI 0)) hx hb hts inX7 tyX7 tyX7_ok nmX7 hown hT hP hD hS 0 rfl rfl 27 (Nat.le_of_ble_eq_true rfl) lk131 (fun _ h => h) rfl (by decide +kernel) rfl rfl (Nat.le_of_ble_eq_true rfl) dX7_text_169 (fun H locs hP hD hS => ?_)
        have hP : va_P G.1 vwCl (wX7 G ad (mset 0 21 (nI 0) (mset 0 0 (f_135 0 1) f_135))) H := hP
        have hD : va_D A (wX7 G ad (mset 0 21 (nI 0) (mset 0 0 (f_135 0 1) f_135))) := hD
        refine lv_aload_n hx hb dX7_text_172 rfl (lv_at hl 0 rfl) ?_
        refine va_get (C := RX7) (T := TX7) (N := 34) (ci := 7) (v := .ref (ad 8)) hx hb hts inX7 hown hT hP 0 rfl rfl 29 (Nat.le_of_ble_eq_true rfl) lk31 (fun _ h => h) rfl dX7_text_173 ?_
        refine lv_iconst (v := (nI 0)) hx hb dX7_text_176 (ic_0) ?_
        refine lv_iconst (v := (nI 0)) hx hb dX7_text_177 (ic_0) ?_
        obtain ⟨hg, hf⟩ := gd_e hf
        refine va_zast (f := f_135 8) hx hb hT hP hD hS 8 1 rfl rfl (inb_e hg) dX7_text_178 (fun H locs hP hD hS => ?_)
        have hP : va_P G.1 vwCl (wX7 G ad (mrow 8 ((upd (f_135 8) (nI 0).toNatClampNeg (nI 0))) (mset 0 21 (nI 0) (mset 0 0 (f_135 0 1) f_135)))) H := hP
        have hD : va_D A (wX7 G ad (mrow 8 ((upd (f_135 8) (nI 0).toNatClampNeg (nI 0))) (mset 0 21 (nI 0) (mset 0 0 (f_135 0 1) f_135)))) := hD
        refine lv_aload_n hx hb dX7_text_179 rfl (lv_at hl 0 rfl) ?_
        refine va_get (C := RX7) (T := TX7) (N := 34) (ci := 7) (v := .ref (ad 8)) hx hb hts inX7 hown hT hP 0 rfl rfl 29 (Nat.le_of_ble_eq_true rfl) lk31 (fun _ h => h) rfl dX7_text_180 ?_
        refine lv_iconst (v := (nI 1)) hx hb dX7_text_183 (ic_1) ?_
        refine lv_iconst (v := (nI 0)) hx hb dX7_text_184 (ic_0) ?_
        obtain ⟨hg, hf⟩ := gd_e hf
        refine va_zast (f := (upd (f_135 8) (nI 0).toNatClampNeg (nI 0))) hx hb hT hP hD hS 8 1 rfl rfl (inb_e hg) dX7_text_185 (fun H locs hP hD hS => ?_)
        have hP : va_P G.1 vwCl (wX7 G ad (mrow 8 ((upd ((upd (f_135 8) (nI 0).toNatClampNeg (nI 0))) (nI 1).toNatClampNeg (nI 0))) (mrow 8 ((upd (f_135 8) (nI 0).toNatClampNeg (nI 0))) (mset 0 21 (nI 0) (mset 0 0 (f_135 0 1) f_135))))) H := hP
        have hD : va_D A (wX7 G ad (mrow 8 ((upd ((upd (f_135 8) (nI 0).toNatClampNeg (nI 0))) (nI 1).toNatClampNeg (nI 0))) (mrow 8 ((upd (f_135 8) (nI 0).toNatClampNeg (nI 0))) (mset 0 21 (nI 0) (mset 0 0 (f_135 0 1) f_135))))) := hD
        refine lv_iload_n hx hb dX7_text_186 rfl (lv_at hl 1 rfl) ?_
        have hK9 := K0_of hf hK
        exact hRet x1 (mrow 8 ((upd ((upd (f_135 8) (nI 0).toNatClampNeg (nI 0))) (nI 1).toNatClampNeg (nI 0))) (mrow 8 ((upd (f_135 8) (nI 0).toNatClampNeg (nI 0))) (mset 0 21 (nI 0) (mset 0 0 (f_135 0 1) f_135)))) _ _ _ _ hK9 dX7_text_187 hP hD hS
    · have hf := if_f hf hc
      refine lv_bipush (v := (-10 : Int32)) hx hb dX7_text_125 (bi_m10) ?_
      refine lv_aload_n hx hb dX7_text_127 rfl (lv_at hl 0 rfl) ?_
      refine va_get (C := RX7) (T := TX7) (N := 34) (ci := 7) (v := .int (f 0 8)) hx hb hts inX7 hown hT hP 0 rfl rfl 11 (Nat.le_of_ble_eq_true rfl) lk60 (fun _ h => h) rfl dX7_text_128 ?_
      refine lv_isub hx hb dX7_text_131 ?_
      have hK9 := K0_of hf hK
      exact hRet ((-10 : Int32) - (f 0 8)) (mset 0 6 (f 0 7) (mset 0 5 (nI 0) f)) _ _ _ _ hK9 dX7_text_132 hP hD hS
  have hB81 : ∀ (f : Mem) (x1 : Int32) (res : Int32 × Mem) (hf : p_X7_text_B81 f x1 = some res) (hK : res = (r, fz)), ∀ (H : Heap) (locs : List Loc) (ls : Array Slot), va_P G.1 vwCl (wX7 G ad f) H → va_D A (wX7 G ad f) → va_S A s.heap H locs → lv_has ls 3 [(0, .ref (ad 0)), (1, .int x1)] → W p l e ({ frames := 8, cells := 0, slots := 0, locals := 168 }) s m args below meth c H locs 0 0 Q (F0 m 81 ls []) := by
    intro f x1 res hf hK H locs ls hP hD hS hl
    unfold p_X7_text_B81 at hf
    refine lv_aload_n hx hb dX7_text_81 rfl (lv_at hl 0 rfl) ?_
    refine va_get (C := RX7) (T := TX7) (N := 34) (ci := 7) (v := .int (f 0 7)) hx hb hts inX7 hown hT hP 0 rfl rfl 10 (Nat.le_of_ble_eq_true rfl) lk54 (fun _ h => h) rfl dX7_text_82 ?_
    refine lv_if_ne (tgt := 105) hx hb dX7_text_85 (by decide) (fun hc => ?_) (fun hc => ?_)
    · have hf := if_f hf hc
      exact hB105 f x1 _ hf hK _ _ _ hP hD hS (lv_sub hl [0, 1] rfl)
    · have hf := if_t hf hc
      refine lv_aload_n hx hb dX7_text_88 rfl (lv_at hl 0 rfl) ?_
      refine va_get (C := RX7) (T := TX7) (N := 34) (ci := 7) (v := .int (f 0 4)) hx hb hts inX7 hown hT hP 0 rfl rfl 6 (Nat.le_of_ble_eq_true rfl) lk95 (fun _ h => h) rfl dX7_text_89 ?_
      refine lv_aload_n hx hb dX7_text_92 rfl (lv_at hl 0 rfl) ?_
      refine va_get (C := RX7) (T := TX7) (N := 34) (ci := 7) (v := .int (f 0 1)) hx hb hts inX7 hown hT hP 0 rfl rfl 3 (Nat.le_of_ble_eq_true rfl) lk102 (fun _ h => h) rfl dX7_text_93 ?_
      refine lv_icmp_lt (tgt := 105) hx hb dX7_text_96 (by decide) (fun hc => ?_) (fun hc => ?_)
      · have hf := if_t hf hc
        exact hB105 f x1 _ hf hK _ _ _ hP hD hS (lv_sub hl [0, 1] rfl)
      · have hf := if_f hf hc
        refine lv_aload_n hx hb dX7_text_99 rfl (lv_at hl 0 rfl) ?_
        refine lv_bipush (v := (nI 6)) hx hb dX7_text_100 (bi_6) ?_
        obtain ⟨f_102, hc102, hf⟩ := bd_e hf
        refine cl_v_same (Wd := (wX7 G ad f)) (W' := (wX7 G ad f_102)) (va_runV (As := [.int (nI 6)]) (rest := []) hC (c_X7_fails l G ad f (nI 6) f_102 hc102 _) (cwV 1 hts gX7_text_X7_fails rfl rfl rfl (by decide +kernel) ⟨Nat.le_of_ble_eq_true rfl, Nat.le_of_ble_eq_true rfl⟩) ⟨Pc0_blind, va_recv hT hP (q0 := 0) (ci := 7) rfl rfl, fun U hU hW => Pc0_at hE hP hD hU hW⟩ rfl rfl hl.1 rfl (lv_room (Nat.le_of_ble_eq_true rfl)) dX7_text_102 ⟨Nat.zero_le _, Nat.zero_le _⟩) hS hA hD (fun H locs hP hD hS => ?_)
        exact hB105 f_102 x1 _ hf hK _ _ _ hP hD hS (lv_sub hl [0, 1] rfl)
  obtain ⟨res, hres, hK⟩ : ∃ res, p_X7_text f = some res ∧ res = (r, fz) := ⟨_, hf, rfl⟩
  clear hf
  have hf := hres
  clear hres
  unfold p_X7_text at hf
  refine lv_aload_n hx hb dX7_text_0 rfl (lv_at hl 0 rfl) ?_
  refine lv_iconst (v := (nI 0)) hx hb dX7_text_1 (ic_0) ?_
  refine va_put (C := RX7) (T := TX7) (N := 34) (ci := 7) (ty := .int) (v := .int (nI 0)) hx hb hts inX7 tyX7 tyX7_ok nmX7 hown hT hP hD hS 0 rfl rfl 10 (Nat.le_of_ble_eq_true rfl) lk54 (fun _ h => h) rfl (by decide +kernel) rfl rfl (Nat.le_of_ble_eq_true rfl) dX7_text_2 (fun H locs hP hD hS => ?_)
  have hP : va_P G.1 vwCl (wX7 G ad (mset 0 7 (nI 0) f)) H := hP
  have hD : va_D A (wX7 G ad (mset 0 7 (nI 0) f)) := hD
  refine lv_aload_n hx hb dX7_text_5 rfl (lv_at hl 0 rfl) ?_
  refine lv_iconst (v := (nI 0)) hx hb dX7_text_6 (ic_0) ?_
  refine va_put (C := RX7) (T := TX7) (N := 34) (ci := 7) (ty := .int) (v := .int (nI 0)) hx hb hts inX7 tyX7 tyX7_ok nmX7 hown hT hP hD hS 0 rfl rfl 12 (Nat.le_of_ble_eq_true rfl) lk66 (fun _ h => h) rfl (by decide +kernel) rfl rfl (Nat.le_of_ble_eq_true rfl) dX7_text_7 (fun H locs hP hD hS => ?_)
  have hP : va_P G.1 vwCl (wX7 G ad (mset 0 9 (nI 0) (mset 0 7 (nI 0) f))) H := hP
  have hD : va_D A (wX7 G ad (mset 0 9 (nI 0) (mset 0 7 (nI 0) f))) := hD
  refine lv_aload_n hx hb dX7_text_10 rfl (lv_at hl 0 rfl) ?_
  refine lv_iconst (v := (nI 0)) hx hb dX7_text_11 (ic_0) ?_
  refine va_put (C := RX7) (T := TX7) (N := 34) (ci := 7) (ty := .int) (v := .int (nI 0)) hx hb hts inX7 tyX7 tyX7_ok nmX7 hown hT hP hD hS 0 rfl rfl 3 (Nat.le_of_ble_eq_true rfl) lk102 (fun _ h => h) rfl (by decide +kernel) rfl rfl (Nat.le_of_ble_eq_true rfl) dX7_text_12 (fun H locs hP hD hS => ?_)
  have hP : va_P G.1 vwCl (wX7 G ad (mset 0 1 (nI 0) (mset 0 9 (nI 0) (mset 0 7 (nI 0) f)))) H := hP
  have hD : va_D A (wX7 G ad (mset 0 1 (nI 0) (mset 0 9 (nI 0) (mset 0 7 (nI 0) f)))) := hD
  refine lv_aload_n hx hb dX7_text_15 rfl (lv_at hl 0 rfl) ?_
  refine lv_iconst (v := (nI 0)) hx hb dX7_text_16 (ic_0) ?_
  refine va_put (C := RX7) (T := TX7) (N := 34) (ci := 7) (ty := .int) (v := .int (nI 0)) hx hb hts inX7 tyX7 tyX7_ok nmX7 hown hT hP hD hS 0 rfl rfl 4 (Nat.le_of_ble_eq_true rfl) lk105 (fun _ h => h) rfl (by decide +kernel) rfl rfl (Nat.le_of_ble_eq_true rfl) dX7_text_17 (fun H locs hP hD hS => ?_)
  have hP : va_P G.1 vwCl (wX7 G ad (mset 0 2 (nI 0) (mset 0 1 (nI 0) (mset 0 9 (nI 0) (mset 0 7 (nI 0) f))))) H := hP
  have hD : va_D A (wX7 G ad (mset 0 2 (nI 0) (mset 0 1 (nI 0) (mset 0 9 (nI 0) (mset 0 7 (nI 0) f))))) := hD
  refine lv_aload_n hx hb dX7_text_20 rfl (lv_at hl 0 rfl) ?_
  refine lv_iconst (v := (nI 0)) hx hb dX7_text_21 (ic_0) ?_
  refine va_put (C := RX7) (T := TX7) (N := 34) (ci := 7) (ty := .int) (v := .int (nI 0)) hx hb hts inX7 tyX7 tyX7_ok nmX7 hown hT hP hD hS 0 rfl rfl 5 (Nat.le_of_ble_eq_true rfl) lk108 (fun _ h => h) rfl (by decide +kernel) rfl rfl (Nat.le_of_ble_eq_true rfl) dX7_text_22 (fun H locs hP hD hS => ?_)
  have hP : va_P G.1 vwCl (wX7 G ad (mset 0 3 (nI 0) (mset 0 2 (nI 0) (mset 0 1 (nI 0) (mset 0 9 (nI 0) (mset 0 7 (nI 0) f)))))) H := hP
  have hD : va_D A (wX7 G ad (mset 0 3 (nI 0) (mset 0 2 (nI 0) (mset 0 1 (nI 0) (mset 0 9 (nI 0) (mset 0 7 (nI 0) f)))))) := hD
  refine lv_aload_n hx hb dX7_text_25 rfl (lv_at hl 0 rfl) ?_
  refine lv_iconst (v := (-1 : Int32)) hx hb dX7_text_26 (ic_m1) ?_
  refine va_put (C := RX7) (T := TX7) (N := 34) (ci := 7) (ty := .int) (v := .int (-1 : Int32)) hx hb hts inX7 tyX7 tyX7_ok nmX7 hown hT hP hD hS 0 rfl rfl 6 (Nat.le_of_ble_eq_true rfl) lk95 (fun _ h => h) rfl (by decide +kernel) rfl rfl (Nat.le_of_ble_eq_true rfl) dX7_text_27 (fun H locs hP hD hS => ?_)
  have hP : va_P G.1 vwCl (wX7 G ad (mset 0 4 (-1 : Int32) (mset 0 3 (nI 0) (mset 0 2 (nI 0) (mset 0 1 (nI 0) (mset 0 9 (nI 0) (mset 0 7 (nI 0) f))))))) H := hP
  have hD : va_D A (wX7 G ad (mset 0 4 (-1 : Int32) (mset 0 3 (nI 0) (mset 0 2 (nI 0) (mset 0 1 (nI 0) (mset 0 9 (nI 0) (mset 0 7 (nI 0) f))))))) := hD
  refine lv_iconst (v := (nI 0)) hx hb dX7_text_30 (ic_0) ?_
  refine lv_istore_n (lv' := [(1, .int (nI 0)), (0, .ref (ad 0))]) hx hb dX7_text_31 rfl hl (by decide) rfl (fun ls hl => ?_)
  refine lv_iconst (v := (nI 0)) hx hb dX7_text_32 (ic_0) ?_
  refine lv_istore_n (lv' := [(2, .int (nI 0)), (1, .int (nI 0)), (0, .ref (ad 0))]) hx hb dX7_text_33 rfl hl (by decide) rfl (fun ls hl => ?_)
  obtain ⟨f_34, hlp, hf⟩ := bd_e hf
  refine lp_W1 (p_X7_text_L34 (nI 0)) (fun z => match z with | (x2, f_) => ∀ (H : Heap) (locs : List Loc) (ls : Array Slot), va_P G.1 vwCl (wX7 G ad f_) H → va_D A (wX7 G ad f_) → va_S A s.heap H locs → lv_has ls 3 [(0, .ref (ad 0)), (1, .int (nI 0)), (2, .int x2)] → W p l e ({ frames := 8, cells := 0, slots := 0, locals := 168 }) s m args below meth c H locs 0 0 Q (F0 m 34 ls [])) (fun (f_34 : Mem) => ∀ (H : Heap) (locs : List Loc) (ls : Array Slot), va_P G.1 vwCl (wX7 G ad f_34) H → va_D A (wX7 G ad f_34) → va_S A s.heap H locs → lv_has ls 3 [(0, .ref (ad 0)), (1, .int (nI 0))] → W p l e ({ frames := 8, cells := 0, slots := 0, locals := 168 }) s m args below meth c H locs 0 0 Q (F0 m 53 ls [])) ?_ hlp ?_ _ _ _ hP hD hS (lv_sub hl [2, 1, 0] rfl)
  · clear hlp hf hK hP hD hS hl
    generalize (nI 0) = x1
    intro K34 hW34 hX34 
    rintro ⟨x2, f_⟩ res hf hK H locs ls hP hD hS hl
    unfold p_X7_text_L34 at hf
    dsimp only at hf
    refine lv_iload_n hx hb dX7_text_34 rfl (lv_at hl 2 rfl) ?_
    refine lv_bipush (v := (nI 60)) hx hb dX7_text_35 (bi_60) ?_
    refine lv_icmp_ge (tgt := 53) hx hb dX7_text_37 (by decide) (fun hc => ?_) (fun hc => ?_)
    · have hf := if_t hf hc
      have hK9 := K_of hf hK
      have hK9 := hX34 _ hK9
      exact hK9 _ _ _ hP hD hS (lv_sub hl [0, 1] rfl)
    · have hf := if_f hf hc
      refine lv_aload_n hx hb dX7_text_40 rfl (lv_at hl 0 rfl) ?_
      refine va_get (C := RX7) (T := TX7) (N := 34) (ci := 7) (v := .ref (ad 2)) hx hb hts inX7 hown hT hP 0 rfl rfl 2 (Nat.le_of_ble_eq_true rfl) lk13 (fun _ h => h) rfl dX7_text_41 ?_
      refine lv_iload_n hx hb dX7_text_44 rfl (lv_at hl 2 rfl) ?_
      refine lv_iconst (v := (nI 0)) hx hb dX7_text_45 (ic_0) ?_
      obtain ⟨hg, hf⟩ := gd_e hf
      obtain ⟨g46, eg46, hf⟩ := bnd_e hf
      refine va_iast (f := f_ 2) hx hb hT hP hD hS 2 0 rfl rfl (inb_e hg) dX7_text_46 (fun H locs hP hD hS => ?_)
      rw [← eg46] at hP hD
      have hP : va_P G.1 vwCl (wX7 G ad (mrow 2 (g46) f_)) H := hP
      have hD : va_D A (wX7 G ad (mrow 2 (g46) f_)) := hD
      refine lv_iinc (v := (x2 + nI 1)) (lv' := [(2, .int (x2 + nI 1)), (0, .ref (ad 0)), (1, .int x1)]) hx hb dX7_text_47 hl (k := 2) rfl (ii_x 1 _) (by decide) rfl (fun ls hl => ?_)
      refine lv_goto (tgt := 34) hx hb dX7_text_50 (by decide) ?_
      have hK9 := K_of hf hK
      have hK9 := hW34 _ hK9
      exact hK9 _ _ _ hP hD hS (lv_sub hl [1, 2, 0] rfl)
  · try dsimp only at hf
    show ∀ (H : Heap) (locs : List Loc) (ls : Array Slot), va_P G.1 vwCl (wX7 G ad f_34) H → va_D A (wX7 G ad f_34) → va_S A s.heap H locs → lv_has ls 3 [(0, .ref (ad 0)), (1, .int (nI 0))] → W p l e ({ frames := 8, cells := 0, slots := 0, locals := 168 }) s m args below meth c H locs 0 0 Q (F0 m 53 ls [])
    intro H locs ls hP hD hS hl
    refine lv_aload_n hx hb dX7_text_53 rfl (lv_at hl 0 rfl) ?_
    obtain ⟨f_54, hc54, hf⟩ := bd_e hf
    refine cl_v_same (Wd := (wX7 G ad f_34)) (W' := (wX7 G ad f_54)) (va_runV (As := []) (rest := []) hC (c_X7_step l G ad f_34 f_54 hc54 _) (cwV 0 hts gX7_text_X7_step rfl rfl rfl (by decide +kernel) ⟨Nat.le_of_ble_eq_true rfl, Nat.le_of_ble_eq_true rfl⟩) ⟨Pc0_blind, va_recv hT hP (q0 := 0) (ci := 7) rfl rfl, fun U hU hW => Pc0_at hE hP hD hU hW⟩ rfl rfl hl.1 rfl (lv_room (Nat.le_of_ble_eq_true rfl)) dX7_text_54 ⟨Nat.zero_le _, Nat.zero_le _⟩) hS hA hD (fun H locs hP hD hS => ?_)
    obtain ⟨⟨y1_57, f_57⟩, hlp, hf⟩ := bd_e hf
    refine lp_W1 (p_X7_text_L57) (fun z => match z with | (x1, f_) => ∀ (H : Heap) (locs : List Loc) (ls : Array Slot), va_P G.1 vwCl (wX7 G ad f_) H → va_D A (wX7 G ad f_) → va_S A s.heap H locs → lv_has ls 3 [(0, .ref (ad 0)), (1, .int x1)] → W p l e ({ frames := 8, cells := 0, slots := 0, locals := 168 }) s m args below meth c H locs 0 0 Q (F0 m 57 ls [])) (fun z => match z with | (y1_57, f_57) => ∀ (H : Heap) (locs : List Loc) (ls : Array Slot), va_P G.1 vwCl (wX7 G ad f_57) H → va_D A (wX7 G ad f_57) → va_S A s.heap H locs → lv_has ls 3 [(0, .ref (ad 0)), (1, .int y1_57)] → W p l e ({ frames := 8, cells := 0, slots := 0, locals := 168 }) s m args below meth c H locs 0 0 Q (F0 m 81 ls [])) ?_ hlp ?_ _ _ _ hP hD hS (lv_sub hl [0, 1] rfl)
    · clear hlp hf hK hP hD hS hl
      intro K57 hW57 hX57 
      rintro ⟨x1, f_⟩ res hf hK H locs ls hP hD hS hl
      unfold p_X7_text_L57 at hf
      dsimp only at hf
      refine lv_aload_n hx hb dX7_text_57 rfl (lv_at hl 0 rfl) ?_
      refine va_get (C := RX7) (T := TX7) (N := 34) (ci := 7) (v := .int (f_ 0 7)) hx hb hts inX7 hown hT hP 0 rfl rfl 10 (Nat.le_of_ble_eq_true rfl) lk54 (fun _ h => h) rfl dX7_text_58 ?_
      refine lv_if_ne (tgt := 81) hx hb dX7_text_61 (by decide) (fun hc => ?_) (fun hc => ?_)
      · have hf := if_f hf hc
        have hK9 := K_of hf hK
        have hK9 := hX57 _ hK9
        exact hK9 _ _ _ hP hD hS (lv_sub hl [0, 1] rfl)
      · have hf := if_t hf hc
        refine lv_aload_n hx hb dX7_text_64 rfl (lv_at hl 0 rfl) ?_
        refine va_get (C := RX7) (T := TX7) (N := 34) (ci := 7) (v := .int (f_ 0 11)) hx hb hts inX7 hown hT hP 0 rfl rfl 14 (Nat.le_of_ble_eq_true rfl) lk63 (fun _ h => h) rfl dX7_text_65 ?_
        refine lv_if_eq (tgt := 81) hx hb dX7_text_68 (by decide) (fun hc => ?_) (fun hc => ?_)
        · have hf := if_t hf hc
          have hK9 := K_of hf hK
          have hK9 := hX57 _ hK9
          exact hK9 _ _ _ hP hD hS (lv_sub hl [0, 1] rfl)
        · have hf := if_f hf hc
          refine lv_aload_n hx hb dX7_text_71 rfl (lv_at hl 0 rfl) ?_
          obtain ⟨f_72, hc72, hf⟩ := bd_e hf
          refine cl_v_same (Wd := (wX7 G ad f_)) (W' := (wX7 G ad f_72)) (va_runV (As := []) (rest := []) hC (c_X7_readLine l G ad f_ f_72 hc72 _) (cwV 0 hts gX7_text_X7_readLine rfl rfl rfl (by decide +kernel) ⟨Nat.le_of_ble_eq_true rfl, Nat.le_of_ble_eq_true rfl⟩) ⟨Pc0_blind, va_recv hT hP (q0 := 0) (ci := 7) rfl rfl, fun U hU hW => Pc0_at hE hP hD hU hW⟩ rfl rfl hl.1 rfl (lv_room (Nat.le_of_ble_eq_true rfl)) dX7_text_72 ⟨Nat.zero_le _, Nat.zero_le _⟩) hS hA hD (fun H locs hP hD hS => ?_)
          refine lv_iinc (v := (x1 + nI 1)) (lv' := [(1, .int (x1 + nI 1)), (0, .ref (ad 0))]) hx hb dX7_text_75 hl (k := 1) rfl (ii_x 1 _) (by decide) rfl (fun ls hl => ?_)
          refine lv_goto (tgt := 57) hx hb dX7_text_78 (by decide) ?_
          have hK9 := K_of hf hK
          have hK9 := hW57 _ hK9
          exact hK9 _ _ _ hP hD hS (lv_sub hl [1, 0] rfl)
    · try dsimp only at hf
      show ∀ (H : Heap) (locs : List Loc) (ls : Array Slot), va_P G.1 vwCl (wX7 G ad f_57) H → va_D A (wX7 G ad f_57) → va_S A s.heap H locs → lv_has ls 3 [(0, .ref (ad 0)), (1, .int y1_57)] → W p l e ({ frames := 8, cells := 0, slots := 0, locals := 168 }) s m args below meth c H locs 0 0 Q (F0 m 81 ls [])
      intro H locs ls hP hD hS hl
      exact hB81 f_57 y1_57 _ hf hK _ _ _ hP hD hS (lv_sub hl [0, 1] rfl)
noncomputable def p_X7_fault (f : Mem) : Option (Int32) :=
  some (f 0 6)
set_option maxHeartbeats 4000000 in
set_option maxRecDepth 100000 in
theorem c_X7_fault (l : Launch) (G : Gt) (ad : Nat → Nat) (f : Mem) (r : Int32) (hf : p_X7_fault f = some r) (sz : Nat) : Met l yX7_fault wsX7_fault ({ frames := 1, cells := 0, slots := 0, locals := 12 }) (Pc0 G sz [.ref (ad 0)] (wX7 G ad f)) (Qi0 G (va_A (wX7 G ad f) sz) r (wX7 G ad f)) 0 0 (va_A (wX7 G ad f) sz) := by
  refine metP (Qf := fun A => Qi0 G A r (wX7 G ad f)) cX7_fault 1 (some .int) (by decide) rfl (Nat.le_of_ble_eq_true rfl) ?_
  intro p e s m below meth c A ls hC hr hlocks hin hE hA hsz hP hD hS hl
  generalize hargs : ([.ref (ad 0)] : List Value).toArray = args at hC ⊢
  obtain ⟨hx, hb, hml, hown, hts⟩ := id hC
  have hT : va_K G.1 vwCl (tyL G) s := hE.1
  have hRet : ∀ (r9 : Int32) (H : Heap) (locs : List Loc) (ls : Array Slot) (pc : Nat) (hK9 : r9 = r) (hdg : decode cX7_fault pc = .ok (.ireturn, 1)), va_P G.1 vwCl (wX7 G ad f) H → va_D A (wX7 G ad f) → va_S A s.heap H locs → W p l e ({ frames := 1, cells := 0, slots := 0, locals := 12 }) s m args below meth c H locs 0 0 (MQ below (Qi0 G A r (wX7 G ad f)) args s 0 0 A) (F0 m pc ls [.int r9]) := by
    intro r9 H locs ls pc hK9 hdg hP hD hS
    cases hK9
    exact W.iret hx hb hr (fun t ht hW => ⟨⟨r, (), rfl, rfl, by rw [ht]; exact hP, hD⟩, hS.F ht⟩) hS.2.2 hdg hlocks
  generalize MQ below (Qi0 G A r (wX7 G ad f)) args s 0 0 A = Q at hRet ⊢
  have lk125 := hts (.fieldLink RX7 125 "FeatherSharesModel" "fault" "I") (by decide +kernel)
  have inX7 : ∀ w ∈ u_ws RX7 TX7 34, w ∈ wsX7_fault := by decide +kernel
  have hl : lv_has ls 1 [(0, .ref (ad 0))] := hl
  have hK0 : r = r := rfl
  obtain ⟨res, hres, hK⟩ : ∃ res, p_X7_fault f = some res ∧ res = r := ⟨_, hf, rfl⟩
  clear hf
  have hf := hres
  clear hres
  unfold p_X7_fault at hf
  refine lv_aload_n hx hb dX7_fault_0 rfl (lv_at hl 0 rfl) ?_
  refine va_get (C := RX7) (T := TX7) (N := 34) (ci := 7) (v := .int (f 0 6)) hx hb hts inX7 hown hT hP 0 rfl rfl 9 (Nat.le_of_ble_eq_true rfl) lk125 (fun _ h => h) rfl dX7_fault_1 ?_
  have hK9 := K0_of hf hK
  exact hRet (f 0 6) _ _ _ _ hK9 dX7_fault_4 hP hD hS
noncomputable def p_X7_isGoose (f : Mem) (x1 : Int32) : Option (Int32) :=
  Option.bind (p_X7_in ((x1).toInt64) (lN 0) (((f 0 0) - (nI 1)).toInt64)) <| fun r10 =>
  some r10
set_option maxHeartbeats 4000000 in
set_option maxRecDepth 100000 in
theorem c_X7_isGoose (l : Launch) (G : Gt) (ad : Nat → Nat) (f : Mem) (x1 : Int32) (r : Int32) (hf : p_X7_isGoose f x1 = some r) (sz : Nat) : Met l yX7_isGoose wsX7_isGoose ({ frames := 2, cells := 0, slots := 0, locals := 37 }) (Pc0 G sz [.ref (ad 0), .int x1] (wX7 G ad f)) (Qz0 G (va_A (wX7 G ad f) sz) r (wX7 G ad f)) 0 0 (va_A (wX7 G ad f) sz) := by
  refine metP (Qf := fun A => Qz0 G A r (wX7 G ad f)) cX7_isGoose 2 (some .boolean) (by decide) rfl (Nat.le_of_ble_eq_true rfl) ?_
  intro p e s m below meth c A ls hC hr hlocks hin hE hA hsz hP hD hS hl
  generalize hargs : ([.ref (ad 0), .int x1] : List Value).toArray = args at hC ⊢
  obtain ⟨hx, hb, hml, hown, hts⟩ := id hC
  have hT : va_K G.1 vwCl (tyL G) s := hE.1
  have hRet : ∀ (r9 : Int32) (H : Heap) (locs : List Loc) (ls : Array Slot) (pc : Nat) (hK9 : r9 = r) (hn9 : narrow .boolean (.int r9) = .int r9) (hdg : decode cX7_isGoose pc = .ok (.ireturn, 1)), va_P G.1 vwCl (wX7 G ad f) H → va_D A (wX7 G ad f) → va_S A s.heap H locs → W p l e ({ frames := 2, cells := 0, slots := 0, locals := 37 }) s m args below meth c H locs 0 0 (MQ below (Qz0 G A r (wX7 G ad f)) args s 0 0 A) (F0 m pc ls [.int r9]) := by
    intro r9 H locs ls pc hK9 hn9 hdg hP hD hS
    cases hK9
    exact W.zret hx hb hr hn9 (fun t ht hW => ⟨⟨r, (), rfl, ⟨rfl, hn9⟩, by rw [ht]; exact hP, hD⟩, hS.F ht⟩) hS.2.2 hdg hlocks
  generalize MQ below (Qz0 G A r (wX7 G ad f)) args s 0 0 A = Q at hRet ⊢
  have lk128 := hts (.fieldLink RX7 128 "FeatherSharesModel" "gooseMany" "I") (by decide +kernel)
  have inX7 : ∀ w ∈ u_ws RX7 TX7 34, w ∈ wsX7_isGoose := by decide +kernel
  have hl : lv_has ls 2 [(0, .ref (ad 0)), (1, .int x1)] := hl
  have hK0 : r = r := rfl
  obtain ⟨res, hres, hK⟩ : ∃ res, p_X7_isGoose f x1 = some res ∧ res = r := ⟨_, hf, rfl⟩
  clear hf
  have hf := hres
  clear hres
  unfold p_X7_isGoose at hf
  refine lv_iload_n hx hb dX7_isGoose_0 rfl (lv_at hl 1 rfl) ?_
  refine lv_i2l (v := ((x1).toInt64)) hx hb dX7_isGoose_1 rfl ?_
  refine lv_lconst (v := (lN 0)) hx hb dX7_isGoose_2 rfl ?_
  refine lv_aload_n hx hb dX7_isGoose_3 rfl (lv_at hl 0 rfl) ?_
  refine va_get (C := RX7) (T := TX7) (N := 34) (ci := 7) (v := .int (f 0 0)) hx hb hts inX7 hown hT hP 0 rfl rfl 1 (Nat.le_of_ble_eq_true rfl) lk128 (fun _ h => h) rfl dX7_isGoose_4 ?_
  refine lv_iconst (v := (nI 1)) hx hb dX7_isGoose_7 (ic_1) ?_
  refine lv_isub hx hb dX7_isGoose_8 ?_
  refine lv_i2l (v := (((f 0 0) - (nI 1)).toInt64)) hx hb dX7_isGoose_9 rfl ?_
  obtain ⟨r10, hc10, hf⟩ := bd_e hf
  refine cl_z_ro (Wd := (wX7 G ad f)) (Wc := ([] : va_W)) [] rfl (va_runS (As := [.long ((x1).toInt64), .long (lN 0), .long (((f 0 0) - (nI 1)).toInt64)]) (rest := []) hC (c_X7_in l G ((x1).toInt64) (lN 0) (((f 0 0) - (nI 1)).toInt64) r10 hc10 _) (va_cwS 3 hts gX7_isGoose_X7_in rfl rfl rfl (by decide +kernel) ⟨Nat.le_of_ble_eq_true rfl, Nat.le_of_ble_eq_true rfl⟩) ⟨Pc0_blind, fun U hU hW => Pc0_at (Wd := ([] : va_W)) hE (hP.subm [] rfl) (hD.sub [] (by decide) rfl) hU hW⟩ rfl rfl hl.1 rfl (lv_room (Nat.le_of_ble_eq_true rfl)) dX7_isGoose_10 ⟨Nat.zero_le _, Nat.zero_le _⟩) hS hA hP hD (fun H locs hn10 hP hD hS => ?_)
  have hK9 := K0_of hf hK
  exact hRet r10 _ _ _ _ hK9 hn10 dX7_isGoose_13 hP hD hS
noncomputable def p_X7_isOwner (x0 : Int32) : Option (Int32) :=
  Option.bind (p_X7_in ((x0).toInt64) (lN 0) (4 : Int64)) <| fun r6 =>
  some r6
set_option maxHeartbeats 4000000 in
set_option maxRecDepth 100000 in
theorem c_X7_isOwner (l : Launch) (G : Gt)  (x0 : Int32) (r : Int32) (hf : p_X7_isOwner x0 = some r) (sz : Nat) : Met l yX7_isOwner wsX7_isOwner ({ frames := 2, cells := 0, slots := 0, locals := 37 }) (Pc0 G sz [.int x0] ([] : va_W)) (Qz0 G (va_A ([] : va_W) sz) r ([] : va_W)) 0 0 (va_A ([] : va_W) sz) := by
  refine metP (Qf := fun A => Qz0 G A r ([] : va_W)) cX7_isOwner 1 (some .boolean) (by decide) rfl (Nat.le_of_ble_eq_true rfl) ?_
  intro p e s m below meth c A ls hC hr hlocks hin hE hA hsz hP hD hS hl
  generalize hargs : ([.int x0] : List Value).toArray = args at hC ⊢
  obtain ⟨hx, hb, hml, hown, hts⟩ := id hC
  have hT : va_K G.1 vwCl (tyL G) s := hE.1
  have hRet : ∀ (r9 : Int32) (H : Heap) (locs : List Loc) (ls : Array Slot) (pc : Nat) (hK9 : r9 = r) (hn9 : narrow .boolean (.int r9) = .int r9) (hdg : decode cX7_isOwner pc = .ok (.ireturn, 1)), va_P G.1 vwCl ([] : va_W) H → va_D A ([] : va_W) → va_S A s.heap H locs → W p l e ({ frames := 2, cells := 0, slots := 0, locals := 37 }) s m args below meth c H locs 0 0 (MQ below (Qz0 G A r ([] : va_W)) args s 0 0 A) (F0 m pc ls [.int r9]) := by
    intro r9 H locs ls pc hK9 hn9 hdg hP hD hS
    cases hK9
    exact W.zret hx hb hr hn9 (fun t ht hW => ⟨⟨r, (), rfl, ⟨rfl, hn9⟩, by rw [ht]; exact hP, hD⟩, hS.F ht⟩) hS.2.2 hdg hlocks
  generalize MQ below (Qz0 G A r ([] : va_W)) args s 0 0 A = Q at hRet ⊢
  have hl : lv_has ls 1 [(0, .int x0)] := hl
  have hK0 : r = r := rfl
  obtain ⟨res, hres, hK⟩ : ∃ res, p_X7_isOwner x0 = some res ∧ res = r := ⟨_, hf, rfl⟩
  clear hf
  have hf := hres
  clear hres
  unfold p_X7_isOwner at hf
  refine lv_iload_n hx hb dX7_isOwner_0 rfl (lv_at hl 0 rfl) ?_
  refine lv_i2l (v := ((x0).toInt64)) hx hb dX7_isOwner_1 rfl ?_
  refine lv_lconst (v := (lN 0)) hx hb dX7_isOwner_2 rfl ?_
  refine W.ldc2 (v := (4 : Int64)) hx hb hown (hts (.constantLong RX7 134 (4 : Int64)) (by decide +kernel)) rfl dX7_isOwner_3 ?_
  refine W.eq (g2 := F0 m 6 ls [.long (4 : Int64), .long (lN 0), .long ((x0).toInt64)]) rfl ?_
  obtain ⟨r6, hc6, hf⟩ := bd_e hf
  refine cl_z_same (Wd := ([] : va_W)) (W' := ([] : va_W)) (va_runS (As := [.long ((x0).toInt64), .long (lN 0), .long (4 : Int64)]) (rest := []) hC (c_X7_in l G ((x0).toInt64) (lN 0) (4 : Int64) r6 hc6 _) (va_cwS 3 hts gX7_isOwner_X7_in rfl rfl rfl (by decide +kernel) ⟨Nat.le_of_ble_eq_true rfl, Nat.le_of_ble_eq_true rfl⟩) ⟨Pc0_blind, fun U hU hW => Pc0_at hE hP hD hU hW⟩ rfl rfl hl.1 rfl (lv_room (Nat.le_of_ble_eq_true rfl)) dX7_isOwner_6 ⟨Nat.zero_le _, Nat.zero_le _⟩) hS hA hD (fun H locs hn6 hP hD hS => ?_)
  have hK9 := K0_of hf hK
  exact hRet r6 _ _ _ _ hK9 hn6 dX7_isOwner_9 hP hD hS

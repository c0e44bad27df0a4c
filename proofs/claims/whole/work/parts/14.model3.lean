noncomputable def p_X7_grant_B33 (f : Mem) (x1 : Int32) (x2 : Int32) (x3 : Int32) (s0 : Int32) : Option (Int32 × Mem) :=
  Option.bind (p_X7_puts f s0 (((nI 19) + ((nI 5) * x1)) + x2) x3 (nI 0)) <| fun (r43, f_43) =>
  some (r43, f_43)
noncomputable def p_X7_grant_B32 (f : Mem) (x1 : Int32) (x2 : Int32) (x3 : Int32) : Option (Int32 × Mem) :=
  p_X7_grant_B33 f x1 x2 x3 (nI 0)
noncomputable def p_X7_grant (f : Mem) (x1 : Int32) (x2 : Int32) (x3 : Int32) : Option (Int32 × Mem) :=
  Option.bind (p_X7_isGoose f x1) <| fun r3 =>
  if r3 = 0 then
    (p_X7_grant_B32 f x1 x2 x3)
  else
    (Option.bind (p_X7_isOwner x2) <| fun r10 =>
     if r10 = 0 then
       (p_X7_grant_B32 f x1 x2 x3)
     else
       (Option.bind (p_X7_in ((x3).toInt64) (lN 0) (99 : Int64)) <| fun r22 =>
        if r22 = 0 then
          (p_X7_grant_B32 f x1 x2 x3)
        else
          (p_X7_grant_B33 f x1 x2 x3 (nI 1))))
set_option maxHeartbeats 4000000 in
set_option maxRecDepth 100000 in
theorem c_X7_grant (l : Launch) (G : Gt) (ad : Nat → Nat) (f : Mem) (x1 : Int32) (x2 : Int32) (x3 : Int32) (r : Int32) (fz : Mem) (hf : p_X7_grant f x1 x2 x3 = some (r, fz)) (sz : Nat) : Met l yX7_grant wsX7_grant ({ frames := 3, cells := 0, slots := 0, locals := 58 }) (Pc0 G sz [.ref (ad 0), .int x1, .int x2, .int x3] (wX7 G ad f)) (Qi0 G (va_A (wX7 G ad f) sz) r (wX7 G ad fz)) 0 0 (va_A (wX7 G ad f) sz) := by
  refine metP (Qf := fun A => Qi0 G A r (wX7 G ad fz)) cX7_grant 4 (some .int) (by decide) rfl (Nat.le_of_ble_eq_true rfl) ?_
  intro p e s m below meth c A ls hC hr hlocks hin hE hA hsz hP hD hS hl
  generalize hargs : ([.ref (ad 0), .int x1, .int x2, .int x3] : List Value).toArray = args at hC ⊢
  obtain ⟨hx, hb, hml, hown, hts⟩ := id hC
  have hT : va_K G.1 vwCl (tyL G) s := hE.1
  have hRet : ∀ (r9 : Int32) (f9 : Mem) (H : Heap) (locs : List Loc) (ls : Array Slot) (pc : Nat) (hK9 : (r9, f9) = (r, fz)) (hdg : decode cX7_grant pc = .ok (.ireturn, 1)), va_P G.1 vwCl (wX7 G ad f9) H → va_D A (wX7 G ad f9) → va_S A s.heap H locs → W p l e ({ frames := 3, cells := 0, slots := 0, locals := 58 }) s m args below meth c H locs 0 0 (MQ below (Qi0 G A r (wX7 G ad fz)) args s 0 0 A) (F0 m pc ls [.int r9]) := by
    intro r9 f9 H locs ls pc hK9 hdg hP hD hS
    cases hK9
    exact W.iret hx hb hr (fun t ht hW => ⟨⟨r, (), rfl, rfl, by rw [ht]; exact hP, hD⟩, hS.F ht⟩) hS.2.2 hdg hlocks
  generalize MQ below (Qi0 G A r (wX7 G ad fz)) args s 0 0 A = Q at hRet ⊢
  have hl : lv_has ls 4 [(0, .ref (ad 0)), (1, .int x1), (2, .int x2), (3, .int x3)] := hl
  have hK0 : (r, fz) = (r, fz) := rfl
  have hB33 : ∀ (f : Mem) (x1 : Int32) (x2 : Int32) (x3 : Int32) (s0 : Int32) (res : Int32 × Mem) (hf : p_X7_grant_B33 f x1 x2 x3 s0 = some res) (hK : res = (r, fz)), ∀ (H : Heap) (locs : List Loc) (ls : Array Slot), va_P G.1 vwCl (wX7 G ad f) H → va_D A (wX7 G ad f) → va_S A s.heap H locs → lv_has ls 4 [(1, .int x1), (2, .int x2), (3, .int x3)] → W p l e ({ frames := 3, cells := 0, slots := 0, locals := 58 }) s m args below meth c H locs 0 0 Q (F0 m 33 ls [.int s0, .ref (ad 0)]) := by
    intro f x1 x2 x3 s0 res hf hK H locs ls hP hD hS hl
    unfold p_X7_grant_B33 at hf
    refine lv_bipush (v := (nI 19)) hx hb dX7_grant_33 (bi_19) ?_
    refine lv_iconst (v := (nI 5)) hx hb dX7_grant_35 (ic_5) ?_
    refine lv_iload_n hx hb dX7_grant_36 rfl (lv_at hl 0 rfl) ?_
    refine lv_imul hx hb dX7_grant_37 ?_
    refine lv_iadd hx hb dX7_grant_38 ?_
    refine lv_iload_n hx hb dX7_grant_39 rfl (lv_at hl 1 rfl) ?_
    refine lv_iadd hx hb dX7_grant_40 ?_
    refine lv_iload_n hx hb dX7_grant_41 rfl (lv_at hl 2 rfl) ?_
    refine lv_iconst (v := (nI 0)) hx hb dX7_grant_42 (ic_0) ?_
    obtain ⟨⟨r43, f_43⟩, hc43, hf⟩ := bd_e hf
    try dsimp only at hf
    refine cl_i_same (Wd := (wX7 G ad f)) (W' := (wX7 G ad f_43)) (va_runV (As := [.int s0, .int (((nI 19) + ((nI 5) * x1)) + x2), .int x3, .int (nI 0)]) (rest := []) hC (c_X7_puts l G ad f s0 (((nI 19) + ((nI 5) * x1)) + x2) x3 (nI 0) r43 f_43 hc43 _) (cwV 4 hts gX7_grant_X7_puts rfl rfl rfl (by decide +kernel) ⟨Nat.le_of_ble_eq_true rfl, Nat.le_of_ble_eq_true rfl⟩) ⟨Pc0_blind, va_recv hT hP (q0 := 0) (ci := 7) rfl rfl, fun U hU hW => Pc0_at hE hP hD hU hW⟩ rfl rfl hl.1 rfl (lv_room (Nat.le_of_ble_eq_true rfl)) dX7_grant_43 ⟨Nat.zero_le _, Nat.zero_le _⟩) hS hA hD (fun H locs hP hD hS => ?_)
    have hK9 := K0_of hf hK
    exact hRet r43 f_43 _ _ _ _ hK9 dX7_grant_46 hP hD hS
  have hB32 : ∀ (f : Mem) (x1 : Int32) (x2 : Int32) (x3 : Int32) (res : Int32 × Mem) (hf : p_X7_grant_B32 f x1 x2 x3 = some res) (hK : res = (r, fz)), ∀ (H : Heap) (locs : List Loc) (ls : Array Slot), va_P G.1 vwCl (wX7 G ad f) H → va_D A (wX7 G ad f) → va_S A s.heap H locs → lv_has ls 4 [(1, .int x1), (2, .int x2), (3, .int x3)] → W p l e ({ frames := 3, cells := 0, slots := 0, locals := 58 }) s m args below meth c H locs 0 0 Q (F0 m 32 ls [.ref (ad 0)]) := by
    intro f x1 x2 x3 res hf hK H locs ls hP hD hS hl
    unfold p_X7_grant_B32 at hf
    refine lv_iconst (v := (nI 0)) hx hb dX7_grant_32 (ic_0) ?_
    exact hB33 f x1 x2 x3 (nI 0) _ hf hK _ _ _ hP hD hS (lv_sub hl [0, 1, 2] rfl)
  obtain ⟨res, hres, hK⟩ : ∃ res, p_X7_grant f x1 x2 x3 = some res ∧ res = (r, fz) := ⟨_, hf, rfl⟩
  clear hf
  have hf := hres
  clear hres
  unfold p_X7_grant at hf
  refine lv_aload_n hx hb dX7_grant_0 rfl (lv_at hl 0 rfl) ?_
  refine lv_aload_n hx hb dX7_grant_1 rfl (lv_at hl 0 rfl) ?_
  refine lv_iload_n hx hb dX7_grant_2 rfl (lv_at hl 1 rfl) ?_
  obtain ⟨r3, hc3, hf⟩ := bd_e hf
  refine cl_z_same (Wd := (wX7 G ad f)) (W' := (wX7 G ad f)) (va_runV (As := [.int x1]) (rest := [.ref (ad 0)]) hC (c_X7_isGoose l G ad f x1 r3 hc3 _) (cwV 1 hts gX7_grant_X7_isGoose rfl rfl rfl (by decide +kernel) ⟨Nat.le_of_ble_eq_true rfl, Nat.le_of_ble_eq_true rfl⟩) ⟨Pc0_blind, va_recv hT hP (q0 := 0) (ci := 7) rfl rfl, fun U hU hW => Pc0_at hE hP hD hU hW⟩ rfl rfl hl.1 rfl (lv_room (Nat.le_of_ble_eq_true rfl)) dX7_grant_3 ⟨Nat.zero_le _, Nat.zero_le _⟩) hS hA hD (fun H locs hn3 hP hD hS => ?_)
  refine lv_if_eq (tgt := 32) hx hb dX7_grant_6 (by decide) (fun hc => ?_) (fun hc => ?_)
  · have hf := if_t hf hc
    exact hB32 f x1 x2 x3 _ hf hK _ _ _ hP hD hS (lv_sub hl [1, 2, 3] rfl)
  · have hf := if_f hf hc
    refine lv_iload_n hx hb dX7_grant_9 rfl (lv_at hl 2 rfl) ?_
    obtain ⟨r10, hc10, hf⟩ := bd_e hf
    refine cl_z_ro (Wd := (wX7 G ad f)) (Wc := ([] : va_W)) [] rfl (va_runS (As := [.int x2]) (rest := [.ref (ad 0)]) hC (c_X7_isOwner l G x2 r10 hc10 _) (va_cwS 1 hts gX7_grant_X7_isOwner rfl rfl rfl (by decide +kernel) ⟨Nat.le_of_ble_eq_true rfl, Nat.le_of_ble_eq_true rfl⟩) ⟨Pc0_blind, fun U hU hW => Pc0_at (Wd := ([] : va_W)) hE (hP.subm [] rfl) (hD.sub [] (by decide) rfl) hU hW⟩ rfl rfl hl.1 rfl (lv_room (Nat.le_of_ble_eq_true rfl)) dX7_grant_10 ⟨Nat.zero_le _, Nat.zero_le _⟩) hS hA hP hD (fun H locs hn10 hP hD hS => ?_)
    refine lv_if_eq (tgt := 32) hx hb dX7_grant_13 (by decide) (fun hc => ?_) (fun hc => ?_)
    · have hf := if_t hf hc
      exact hB32 f x1 x2 x3 _ hf hK _ _ _ hP hD hS (lv_sub hl [1, 2, 3] rfl)
    · have hf := if_f hf hc
      refine lv_iload_n hx hb dX7_grant_16 rfl (lv_at hl 3 rfl) ?_
      refine lv_i2l (v := ((x3).toInt64)) hx hb dX7_grant_17 rfl ?_
      refine lv_lconst (v := (lN 0)) hx hb dX7_grant_18 rfl ?_
      refine W.ldc2 (v := (99 : Int64)) hx hb hown (hts (.constantLong RX7 182 (99 : Int64)) (by decide +kernel)) rfl dX7_grant_19 ?_
      refine W.eq (g2 := F0 m 22 ls [.long (99 : Int64), .long (lN 0), .long ((x3).toInt64), .ref (ad 0)]) rfl ?_
      obtain ⟨r22, hc22, hf⟩ := bd_e hf
      refine cl_z_ro (Wd := (wX7 G ad f)) (Wc := ([] : va_W)) [] rfl (va_runS (As := [.long ((x3).toInt64), .long (lN 0), .long (99 : Int64)]) (rest := [.ref (ad 0)]) hC (c_X7_in l G ((x3).toInt64) (lN 0) (99 : Int64) r22 hc22 _) (va_cwS 3 hts gX7_grant_X7_in rfl rfl rfl (by decide +kernel) ⟨Nat.le_of_ble_eq_true rfl, Nat.le_of_ble_eq_true rfl⟩) ⟨Pc0_blind, fun U hU hW => Pc0_at (Wd := ([] : va_W)) hE (hP.subm [] rfl) (hD.sub [] (by decide) rfl) hU hW⟩ rfl rfl hl.1 rfl (lv_room (Nat.le_of_ble_eq_true rfl)) dX7_grant_22 ⟨Nat.zero_le _, Nat.zero_le _⟩) hS hA hP hD (fun H locs hn22 hP hD hS => ?_)
      refine lv_if_eq (tgt := 32) hx hb dX7_grant_25 (by decide) (fun hc => ?_) (fun hc => ?_)
      · have hf := if_t hf hc
        exact hB32 f x1 x2 x3 _ hf hK _ _ _ hP hD hS (lv_sub hl [1, 2, 3] rfl)
      · have hf := if_f hf hc
        refine lv_iconst (v := (nI 1)) hx hb dX7_grant_28 (ic_1) ?_
        refine lv_goto (tgt := 33) hx hb dX7_grant_29 (by decide) ?_
        exact hB33 f x1 x2 x3 (nI 1) _ hf hK _ _ _ hP hD hS (lv_sub hl [1, 2, 3] rfl)
noncomputable def p_X7_isTrade (f : Mem) (x1 : Int32) (x2 : Int32) (x3 : Int32) (x4 : Int32) : Option (Int32) :=
  Option.bind (p_X7_isOwner x1) <| fun r1 =>
  if r1 = 0 then
    (some (nI 0))
  else
    (Option.bind (p_X7_isOwner x2) <| fun r8 =>
     if r8 = 0 then
       (some (nI 0))
     else
       (if x1 = x2 then
          (some (nI 0))
        else
          (Option.bind (p_X7_isGoose f x3) <| fun r21 =>
           if r21 = 0 then
             (some (nI 0))
           else
             (Option.bind (p_X7_in ((x4).toInt64) (lN 1) (9 : Int64)) <| fun r34 =>
              if r34 = 0 then
                (some (nI 0))
              else
                (some (nI 1))))))
set_option maxHeartbeats 4000000 in
set_option maxRecDepth 100000 in
theorem c_X7_isTrade (l : Launch) (G : Gt) (ad : Nat → Nat) (f : Mem) (x1 : Int32) (x2 : Int32) (x3 : Int32) (x4 : Int32) (r : Int32) (hf : p_X7_isTrade f x1 x2 x3 x4 = some r) (sz : Nat) : Met l yX7_isTrade wsX7_isTrade ({ frames := 3, cells := 0, slots := 0, locals := 58 }) (Pc0 G sz [.ref (ad 0), .int x1, .int x2, .int x3, .int x4] (wX7 G ad f)) (Qz0 G (va_A (wX7 G ad f) sz) r (wX7 G ad f)) 0 0 (va_A (wX7 G ad f) sz) := by
  refine metP (Qf := fun A => Qz0 G A r (wX7 G ad f)) cX7_isTrade 5 (some .boolean) (by decide) rfl (Nat.le_of_ble_eq_true rfl) ?_
  intro p e s m below meth c A ls hC hr hlocks hin hE hA hsz hP hD hS hl
  generalize hargs : ([.ref (ad 0), .int x1, .int x2, .int x3, .int x4] : List Value).toArray = args at hC ⊢
  obtain ⟨hx, hb, hml, hown, hts⟩ := id hC
  have hT : va_K G.1 vwCl (tyL G) s := hE.1
  have hRet : ∀ (r9 : Int32) (H : Heap) (locs : List Loc) (ls : Array Slot) (pc : Nat) (hK9 : r9 = r) (hn9 : narrow .boolean (.int r9) = .int r9) (hdg : decode cX7_isTrade pc = .ok (.ireturn, 1)), va_P G.1 vwCl (wX7 G ad f) H → va_D A (wX7 G ad f) → va_S A s.heap H locs → W p l e ({ frames := 3, cells := 0, slots := 0, locals := 58 }) s m args below meth c H locs 0 0 (MQ below (Qz0 G A r (wX7 G ad f)) args s 0 0 A) (F0 m pc ls [.int r9]) := by
    intro r9 H locs ls pc hK9 hn9 hdg hP hD hS
    cases hK9
    exact W.zret hx hb hr hn9 (fun t ht hW => ⟨⟨r, (), rfl, ⟨rfl, hn9⟩, by rw [ht]; exact hP, hD⟩, hS.F ht⟩) hS.2.2 hdg hlocks
  generalize MQ below (Qz0 G A r (wX7 G ad f)) args s 0 0 A = Q at hRet ⊢
  have hl : lv_has ls 5 [(0, .ref (ad 0)), (1, .int x1), (2, .int x2), (3, .int x3), (4, .int x4)] := hl
  have hK0 : r = r := rfl
  obtain ⟨res, hres, hK⟩ : ∃ res, p_X7_isTrade f x1 x2 x3 x4 = some res ∧ res = r := ⟨_, hf, rfl⟩
  clear hf
  have hf := hres
  clear hres
  unfold p_X7_isTrade at hf
  refine lv_iload_n hx hb dX7_isTrade_0 rfl (lv_at hl 1 rfl) ?_
  obtain ⟨r1, hc1, hf⟩ := bd_e hf
  refine cl_z_ro (Wd := (wX7 G ad f)) (Wc := ([] : va_W)) [] rfl (va_runS (As := [.int x1]) (rest := []) hC (c_X7_isOwner l G x1 r1 hc1 _) (va_cwS 1 hts gX7_isTrade_X7_isOwner rfl rfl rfl (by decide +kernel) ⟨Nat.le_of_ble_eq_true rfl, Nat.le_of_ble_eq_true rfl⟩) ⟨Pc0_blind, fun U hU hW => Pc0_at (Wd := ([] : va_W)) hE (hP.subm [] rfl) (hD.sub [] (by decide) rfl) hU hW⟩ rfl rfl hl.1 rfl (lv_room (Nat.le_of_ble_eq_true rfl)) dX7_isTrade_1 ⟨Nat.zero_le _, Nat.zero_le _⟩) hS hA hP hD (fun H locs hn1 hP hD hS => ?_)
  refine lv_if_eq (tgt := 44) hx hb dX7_isTrade_4 (by decide) (fun hc => ?_) (fun hc => ?_)
  · have hf := if_t hf hc
    refine lv_iconst (v := (nI 0)) hx hb dX7_isTrade_44 (ic_0) ?_
    have hK9 := K0_of hf hK
    exact hRet (nI 0) _ _ _ _ hK9 rfl dX7_isTrade_45 hP hD hS
  · have hf := if_f hf hc
    refine lv_iload_n hx hb dX7_isTrade_7 rfl (lv_at hl 2 rfl) ?_
    obtain ⟨r8, hc8, hf⟩ := bd_e hf
    refine cl_z_ro (Wd := (wX7 G ad f)) (Wc := ([] : va_W)) [] rfl (va_runS (As := [.int x2]) (rest := []) hC (c_X7_isOwner l G x2 r8 hc8 _) (va_cwS 1 hts gX7_isTrade_X7_isOwner rfl rfl rfl (by decide +kernel) ⟨Nat.le_of_ble_eq_true rfl, Nat.le_of_ble_eq_true rfl⟩) ⟨Pc0_blind, fun U hU hW => Pc0_at (Wd := ([] : va_W)) hE (hP.subm [] rfl) (hD.sub [] (by decide) rfl) hU hW⟩ rfl rfl hl.1 rfl (lv_room (Nat.le_of_ble_eq_true rfl)) dX7_isTrade_8 ⟨Nat.zero_le _, Nat.zero_le _⟩) hS hA hP hD (fun H locs hn8 hP hD hS => ?_)
    refine lv_if_eq (tgt := 44) hx hb dX7_isTrade_11 (by decide) (fun hc => ?_) (fun hc => ?_)
    · have hf := if_t hf hc
      refine lv_iconst (v := (nI 0)) hx hb dX7_isTrade_44 (ic_0) ?_
      have hK9 := K0_of hf hK
      exact hRet (nI 0) _ _ _ _ hK9 rfl dX7_isTrade_45 hP hD hS
    · have hf := if_f hf hc
      refine lv_iload_n hx hb dX7_isTrade_14 rfl (lv_at hl 1 rfl) ?_
      refine lv_iload_n hx hb dX7_isTrade_15 rfl (lv_at hl 2 rfl) ?_
      refine lv_icmp_eq (tgt := 44) hx hb dX7_isTrade_16 (by decide) (fun hc => ?_) (fun hc => ?_)
      · have hf := if_t hf hc
        refine lv_iconst (v := (nI 0)) hx hb dX7_isTrade_44 (ic_0) ?_
        have hK9 := K0_of hf hK
        exact hRet (nI 0) _ _ _ _ hK9 rfl dX7_isTrade_45 hP hD hS
      · have hf := if_f hf hc
        refine lv_aload_n hx hb dX7_isTrade_19 rfl (lv_at hl 0 rfl) ?_
        refine lv_iload_n hx hb dX7_isTrade_20 rfl (lv_at hl 3 rfl) ?_
        obtain ⟨r21, hc21, hf⟩ := bd_e hf
        refine cl_z_same (Wd := (wX7 G ad f)) (W' := (wX7 G ad f)) (va_runV (As := [.int x3]) (rest := []) hC (c_X7_isGoose l G ad f x3 r21 hc21 _) (cwV 1 hts gX7_isTrade_X7_isGoose rfl rfl rfl (by decide +kernel) ⟨Nat.le_of_ble_eq_true rfl, Nat.le_of_ble_eq_true rfl⟩) ⟨Pc0_blind, va_recv hT hP (q0 := 0) (ci := 7) rfl rfl, fun U hU hW => Pc0_at hE hP hD hU hW⟩ rfl rfl hl.1 rfl (lv_room (Nat.le_of_ble_eq_true rfl)) dX7_isTrade_21 ⟨Nat.zero_le _, Nat.zero_le _⟩) hS hA hD (fun H locs hn21 hP hD hS => ?_)
        refine lv_if_eq (tgt := 44) hx hb dX7_isTrade_24 (by decide) (fun hc => ?_) (fun hc => ?_)
        · have hf := if_t hf hc
          refine lv_iconst (v := (nI 0)) hx hb dX7_isTrade_44 (ic_0) ?_
          have hK9 := K0_of hf hK
          exact hRet (nI 0) _ _ _ _ hK9 rfl dX7_isTrade_45 hP hD hS
        · have hf := if_f hf hc
          refine lv_iload hx hb dX7_isTrade_27 (lv_at hl 4 rfl) ?_
          refine lv_i2l (v := ((x4).toInt64)) hx hb dX7_isTrade_29 rfl ?_
          refine lv_lconst (v := (lN 1)) hx hb dX7_isTrade_30 rfl ?_
          refine W.ldc2 (v := (9 : Int64)) hx hb hown (hts (.constantLong RX7 174 (9 : Int64)) (by decide +kernel)) rfl dX7_isTrade_31 ?_
          refine W.eq (g2 := F0 m 34 ls [.long (9 : Int64), .long (lN 1), .long ((x4).toInt64)]) rfl ?_
          obtain ⟨r34, hc34, hf⟩ := bd_e hf
          refine cl_z_ro (Wd := (wX7 G ad f)) (Wc := ([] : va_W)) [] rfl (va_runS (As := [.long ((x4).toInt64), .long (lN 1), .long (9 : Int64)]) (rest := []) hC (c_X7_in l G ((x4).toInt64) (lN 1) (9 : Int64) r34 hc34 _) (va_cwS 3 hts gX7_isTrade_X7_in rfl rfl rfl (by decide +kernel) ⟨Nat.le_of_ble_eq_true rfl, Nat.le_of_ble_eq_true rfl⟩) ⟨Pc0_blind, fun U hU hW => Pc0_at (Wd := ([] : va_W)) hE (hP.subm [] rfl) (hD.sub [] (by decide) rfl) hU hW⟩ rfl rfl hl.1 rfl (lv_room (Nat.le_of_ble_eq_true rfl)) dX7_isTrade_34 ⟨Nat.zero_le _, Nat.zero_le _⟩) hS hA hP hD (fun H locs hn34 hP hD hS => ?_)
          refine lv_if_eq (tgt := 44) hx hb dX7_isTrade_37 (by decide) (fun hc => ?_) (fun hc => ?_)
          · have hf := if_t hf hc
            refine lv_iconst (v := (nI 0)) hx hb dX7_isTrade_44 (ic_0) ?_
            have hK9 := K0_of hf hK
            exact hRet (nI 0) _ _ _ _ hK9 rfl dX7_isTrade_45 hP hD hS
          · have hf := if_f hf hc
            refine lv_iconst (v := (nI 1)) hx hb dX7_isTrade_40 (ic_1) ?_
            refine lv_goto (tgt := 45) hx hb dX7_isTrade_41 (by decide) ?_
            have hK9 := K0_of hf hK
            exact hRet (nI 1) _ _ _ _ hK9 rfl dX7_isTrade_45 hP hD hS
noncomputable def p_X7_plan (f : Mem) (x1 : Int32) (x2 : Int32) (x3 : Int32) (x4 : Int32) : Option (Int32 × Mem) :=
  Option.bind (p_X7_isTrade f x1 x2 x3 x4) <| fun r6 =>
  if r6 = 0 then
    (some ((-1 : Int32), f))
  else
    (gd (inb (nI 59) 360) <|
     if (f 1 (nI 59).toNatClampNeg) = (nI 6) then
       (some ((-3 : Int32), f))
     else
       (gd (inb (nI 59) 360) <|
        gd (inb ((nI 35) + ((nI 4) * (f 1 (nI 59).toNatClampNeg))) 360) <|
        bnd (upd (f 1) ((nI 35) + ((nI 4) * (f 1 (nI 59).toNatClampNeg))).toNatClampNeg x1) <| fun g50 =>
        gd (inb (((nI 35) + ((nI 4) * (f 1 (nI 59).toNatClampNeg))) + (nI 1)) 360) <|
        bnd (upd (g50) (((nI 35) + ((nI 4) * (f 1 (nI 59).toNatClampNeg))) + (nI 1)).toNatClampNeg x2) <| fun g60 =>
        gd (inb (((nI 35) + ((nI 4) * (f 1 (nI 59).toNatClampNeg))) + (nI 2)) 360) <|
        bnd (upd (g60) (((nI 35) + ((nI 4) * (f 1 (nI 59).toNatClampNeg))) + (nI 2)).toNatClampNeg x3) <| fun g70 =>
        gd (inb (((nI 35) + ((nI 4) * (f 1 (nI 59).toNatClampNeg))) + (nI 3)) 360) <|
        bnd (upd (g70) (((nI 35) + ((nI 4) * (f 1 (nI 59).toNatClampNeg))) + (nI 3)).toNatClampNeg x4) <| fun g81 =>
        gd (inb (nI 59) 360) <|
        gd (inb (nI 59) 360) <|
        bnd (upd (g81) (nI 59).toNatClampNeg ((g81 (nI 59).toNatClampNeg) + (nI 1))) <| fun g92 =>
        gd (inb (nI 59) 360) <|
        some ((g92 (nI 59).toNatClampNeg), (mrow 1 (g92) (mrow 1 (g81) (mrow 1 (g70) (mrow 1 (g60) (mrow 1 (g50) f))))))))
set_option maxHeartbeats 4000000 in
set_option maxRecDepth 100000 in
theorem c_X7_plan (l : Launch) (G : Gt) (ad : Nat → Nat) (f : Mem) (x1 : Int32) (x2 : Int32) (x3 : Int32) (x4 : Int32) (r : Int32) (fz : Mem) (hf : p_X7_plan f x1 x2 x3 x4 = some (r, fz)) (sz : Nat) : Met l yX7_plan wsX7_plan ({ frames := 4, cells := 0, slots := 0, locals := 82 }) (Pc0 G sz [.ref (ad 0), .int x1, .int x2, .int x3, .int x4] (wX7 G ad f)) (Qi0 G (va_A (wX7 G ad f) sz) r (wX7 G ad fz)) 0 0 (va_A (wX7 G ad f) sz) := by
  refine metP (Qf := fun A => Qi0 G A r (wX7 G ad fz)) cX7_plan 6 (some .int) (by decide) rfl (Nat.le_of_ble_eq_true rfl) ?_
  intro p e s m below meth c A ls hC hr hlocks hin hE hA hsz hP hD hS hl
  generalize hargs : ([.ref (ad 0), .int x1, .int x2, .int x3, .int x4] : List Value).toArray = args at hC ⊢
  obtain ⟨hx, hb, hml, hown, hts⟩ := id hC
  have hT : va_K G.1 vwCl (tyL G) s := hE.1
  have hRet : ∀ (r9 : Int32) (f9 : Mem) (H : Heap) (locs : List Loc) (ls : Array Slot) (pc : Nat) (hK9 : (r9, f9) = (r, fz)) (hdg : decode cX7_plan pc = .ok (.ireturn, 1)), va_P G.1 vwCl (wX7 G ad f9) H → va_D A (wX7 G ad f9) → va_S A s.heap H locs → W p l e ({ frames := 4, cells := 0, slots := 0, locals := 82 }) s m args below meth c H locs 0 0 (MQ below (Qi0 G A r (wX7 G ad fz)) args s 0 0 A) (F0 m pc ls [.int r9]) := by
    intro r9 f9 H locs ls pc hK9 hdg hP hD hS
    cases hK9
    exact W.iret hx hb hr (fun t ht hW => ⟨⟨r, (), rfl, rfl, by rw [ht]; exact hP, hD⟩, hS.F ht⟩) hS.2.2 hdg hlocks
  generalize MQ below (Qi0 G A r (wX7 G ad fz)) args s 0 0 A = Q at hRet ⊢
  have lk7 := hts (.fieldLink RX7 7 "FeatherSharesModel" "state" "[I") (by decide +kernel)
  have inX7 : ∀ w ∈ u_ws RX7 TX7 34, w ∈ wsX7_plan := by decide +kernel
  have hl : lv_has ls 6 [(0, .ref (ad 0)), (1, .int x1), (2, .int x2), (3, .int x3), (4, .int x4)] := hl
  have hK0 : (r, fz) = (r, fz) := rfl
  obtain ⟨res, hres, hK⟩ : ∃ res, p_X7_plan f x1 x2 x3 x4 = some res ∧ res = (r, fz) := ⟨_, hf, rfl⟩
  clear hf
  have hf := hres
  clear hres
  unfold p_X7_plan at hf
  refine lv_aload_n hx hb dX7_plan_0 rfl (lv_at hl 0 rfl) ?_
  refine lv_iload_n hx hb dX7_plan_1 rfl (lv_at hl 1 rfl) ?_
  refine lv_iload_n hx hb dX7_plan_2 rfl (lv_at hl 2 rfl) ?_
  refine lv_iload_n hx hb dX7_plan_3 rfl (lv_at hl 3 rfl) ?_
  refine lv_iload hx hb dX7_plan_4 (lv_at hl 4 rfl) ?_
  obtain ⟨r6, hc6, hf⟩ := bd_e hf
  refine cl_z_same (Wd := (wX7 G ad f)) (W' := (wX7 G ad f)) (va_runV (As := [.int x1, .int x2, .int x3, .int x4]) (rest := []) hC (c_X7_isTrade l G ad f x1 x2 x3 x4 r6 hc6 _) (cwV 4 hts gX7_plan_X7_isTrade rfl rfl rfl (by decide +kernel) ⟨Nat.le_of_ble_eq_true rfl, Nat.le_of_ble_eq_true rfl⟩) ⟨Pc0_blind, va_recv hT hP (q0 := 0) (ci := 7) rfl rfl, fun U hU hW => Pc0_at hE hP hD hU hW⟩ rfl rfl hl.1 rfl (lv_room (Nat.le_of_ble_eq_true rfl)) dX7_plan_6 ⟨Nat.zero_le _, Nat.zero_le _⟩) hS hA hD (fun H locs hn6 hP hD hS => ?_)
  refine lv_if_ne (tgt := 14) hx hb dX7_plan_9 (by decide) (fun hc => ?_) (fun hc => ?_)
  · have hf := if_f hf hc
    refine lv_aload_n hx hb dX7_plan_14 rfl (lv_at hl 0 rfl) ?_
    refine va_get (C := RX7) (T := TX7) (N := 34) (ci := 7) (v := .ref (ad 1)) hx hb hts inX7 hown hT hP 0 rfl rfl 0 (Nat.le_of_ble_eq_true rfl) lk7 (fun _ h => h) rfl dX7_plan_15 ?_
    refine lv_bipush (v := (nI 59)) hx hb dX7_plan_18 (bi_59) ?_
    obtain ⟨hg, hf⟩ := gd_e hf
    refine va_iald (f := f 1) hx hb hT hP 1 0 rfl rfl (inb_e hg) dX7_plan_20 ?_
    refine lv_bipush (v := (nI 6)) hx hb dX7_plan_21 (bi_6) ?_
    refine lv_icmp_ne (tgt := 29) hx hb dX7_plan_23 (by decide) (fun hc => ?_) (fun hc => ?_)
    · have hf := if_f hf hc
      refine lv_bipush (v := (nI 35)) hx hb dX7_plan_29 (bi_35) ?_
      refine lv_iconst (v := (nI 4)) hx hb dX7_plan_31 (ic_4) ?_
      refine lv_aload_n hx hb dX7_plan_32 rfl (lv_at hl 0 rfl) ?_
      refine va_get (C := RX7) (T := TX7) (N := 34) (ci := 7) (v := .ref (ad 1)) hx hb hts inX7 hown hT hP 0 rfl rfl 0 (Nat.le_of_ble_eq_true rfl) lk7 (fun _ h => h) rfl dX7_plan_33 ?_
      refine lv_bipush (v := (nI 59)) hx hb dX7_plan_36 (bi_59) ?_
      obtain ⟨hg, hf⟩ := gd_e hf
      refine va_iald (f := f 1) hx hb hT hP 1 0 rfl rfl (inb_e hg) dX7_plan_38 ?_
      refine lv_imul hx hb dX7_plan_39 ?_
      refine lv_iadd hx hb dX7_plan_40 ?_
      refine lv_istore (lv' := [(5, .int ((nI 35) + ((nI 4) * (f 1 (nI 59).toNatClampNeg)))), (0, .ref (ad 0)), (1, .int x1), (2, .int x2), (3, .int x3), (4, .int x4)]) hx hb dX7_plan_41 hl (by decide) rfl (fun ls hl => ?_)
      refine lv_aload_n hx hb dX7_plan_43 rfl (lv_at hl 1 rfl) ?_
      refine va_get (C := RX7) (T := TX7) (N := 34) (ci := 7) (v := .ref (ad 1)) hx hb hts inX7 hown hT hP 0 rfl rfl 0 (Nat.le_of_ble_eq_true rfl) lk7 (fun _ h => h) rfl dX7_plan_44 ?_
      refine lv_iload hx hb dX7_plan_47 (lv_at hl 0 rfl) ?_
      refine lv_iload_n hx hb dX7_plan_49 rfl (lv_at hl 2 rfl) ?_
      obtain ⟨hg, hf⟩ := gd_e hf
      obtain ⟨g50, eg50, hf⟩ := bnd_e hf
      refine va_iast (f := f 1) hx hb hT hP hD hS 1 0 rfl rfl (inb_e hg) dX7_plan_50 (fun H locs hP hD hS => ?_)
      rw [← eg50] at hP hD
      have hP : va_P G.1 vwCl (wX7 G ad (mrow 1 (g50) f)) H := hP
      have hD : va_D A (wX7 G ad (mrow 1 (g50) f)) := hD
      refine lv_aload_n hx hb dX7_plan_51 rfl (lv_at hl 1 rfl) ?_
      refine va_get (C := RX7) (T := TX7) (N := 34) (ci := 7) (v := .ref (ad 1)) hx hb hts inX7 hown hT hP 0 rfl rfl 0 (Nat.le_of_ble_eq_true rfl) lk7 (fun _ h => h) rfl dX7_plan_52 ?_
      refine lv_iload hx hb dX7_plan_55 (lv_at hl 0 rfl) ?_
      refine lv_iconst (v := (nI 1)) hx hb dX7_plan_57 (ic_1) ?_
      refine lv_iadd hx hb dX7_plan_58 ?_
      refine lv_iload_n hx hb dX7_plan_59 rfl (lv_at hl 3 rfl) ?_
      obtain ⟨hg, hf⟩ := gd_e hf
      obtain ⟨g60, eg60, hf⟩ := bnd_e hf
      refine va_iast (f := g50) hx hb hT hP hD hS 1 0 rfl rfl (inb_e hg) dX7_plan_60 (fun H locs hP hD hS => ?_)
      rw [← eg60] at hP hD
      have hP : va_P G.1 vwCl (wX7 G ad (mrow 1 (g60) (mrow 1 (g50) f))) H := hP
      have hD : va_D A (wX7 G ad (mrow 1 (g60) (mrow 1 (g50) f))) := hD
      refine lv_aload_n hx hb dX7_plan_61 rfl (lv_at hl 1 rfl) ?_
      refine va_get (C := RX7) (T := TX7) (N := 34) (ci := 7) (v := .ref (ad 1)) hx hb hts inX7 hown hT hP 0 rfl rfl 0 (Nat.le_of_ble_eq_true rfl) lk7 (fun _ h => h) rfl dX7_plan_62 ?_
      refine lv_iload hx hb dX7_plan_65 (lv_at hl 0 rfl) ?_
      refine lv_iconst (v := (nI 2)) hx hb dX7_plan_67 (ic_2) ?_
      refine lv_iadd hx hb dX7_plan_68 ?_
      refine lv_iload_n hx hb dX7_plan_69 rfl (lv_at hl 4 rfl) ?_
      obtain ⟨hg, hf⟩ := gd_e hf
      obtain ⟨g70, eg70, hf⟩ := bnd_e hf
      refine va_iast (f := g60) hx hb hT hP hD hS 1 0 rfl rfl (inb_e hg) dX7_plan_70 (fun H locs hP hD hS => ?_)
      rw [← eg70] at hP hD
      have hP : va_P G.1 vwCl (wX7 G ad (mrow 1 (g70) (mrow 1 (g60) (mrow 1 (g50) f)))) H := hP
      have hD : va_D A (wX7 G ad (mrow 1 (g70) (mrow 1 (g60) (mrow 1 (g50) f)))) := hD
      refine lv_aload_n hx hb dX7_plan_71 rfl (lv_at hl 1 rfl) ?_
      refine va_get (C := RX7) (T := TX7) (N := 34) (ci := 7) (v := .ref (ad 1)) hx hb hts inX7 hown hT hP 0 rfl rfl 0 (Nat.le_of_ble_eq_true rfl) lk7 (fun _ h => h) rfl dX7_plan_72 ?_
      refine lv_iload hx hb dX7_plan_75 (lv_at hl 0 rfl) ?_
      refine lv_iconst (v := (nI 3)) hx hb dX7_plan_77 (ic_3) ?_
      refine lv_iadd hx hb dX7_plan_78 ?_
      refine lv_iload hx hb dX7_plan_79 (lv_at hl 5 rfl) ?_
      obtain ⟨hg, hf⟩ := gd_e hf
      obtain ⟨g81, eg81, hf⟩ := bnd_e hf
      refine va_iast (f := g70) hx hb hT hP hD hS 1 0 rfl rfl (inb_e hg) dX7_plan_81 (fun H locs hP hD hS => ?_)
      rw [← eg81] at hP hD
      have hP : va_P G.1 vwCl (wX7 G ad (mrow 1 (g81) (mrow 1 (g70) (mrow 1 (g60) (mrow 1 (g50) f))))) H := hP
      have hD : va_D A (wX7 G ad (mrow 1 (g81) (mrow 1 (g70) (mrow 1 (g60) (mrow 1 (g50) f))))) := hD
      refine lv_aload_n hx hb dX7_plan_82 rfl (lv_at hl 1 rfl) ?_
      refine va_get (C := RX7) (T := TX7) (N := 34) (ci := 7) (v := .ref (ad 1)) hx hb hts inX7 hown hT hP 0 rfl rfl 0 (Nat.le_of_ble_eq_true rfl) lk7 (fun _ h => h) rfl dX7_plan_83 ?_
      refine lv_bipush (v := (nI 59)) hx hb dX7_plan_86 (bi_59) ?_
      refine lv_dup2_11 hx hb dX7_plan_88 rfl rfl ?_
      obtain ⟨hg, hf⟩ := gd_e hf
      refine va_iald (f := g81) hx hb hT hP 1 0 rfl rfl (inb_e hg) dX7_plan_89 ?_
      refine lv_iconst (v := (nI 1)) hx hb dX7_plan_90 (ic_1) ?_
      refine lv_iadd hx hb dX7_plan_91 ?_
      obtain ⟨hg, hf⟩ := gd_e hf
      obtain ⟨g92, eg92, hf⟩ := bnd_e hf
      refine va_iast (f := g81) hx hb hT hP hD hS 1 0 rfl rfl (inb_e hg) dX7_plan_92 (fun H locs hP hD hS => ?_)
      rw [← eg92] at hP hD
      have hP : va_P G.1 vwCl (wX7 G ad (mrow 1 (g92) (mrow 1 (g81) (mrow 1 (g70) (mrow 1 (g60) (mrow 1 (g50) f)))))) H := hP
      have hD : va_D A (wX7 G ad (mrow 1 (g92) (mrow 1 (g81) (mrow 1 (g70) (mrow 1 (g60) (mrow 1 (g50) f)))))) := hD
      refine lv_aload_n hx hb dX7_plan_93 rfl (lv_at hl 1 rfl) ?_
      refine va_get (C := RX7) (T := TX7) (N := 34) (ci := 7) (v := .ref (ad 1)) hx hb hts inX7 hown hT hP 0 rfl rfl 0 (Nat.le_of_ble_eq_true rfl) lk7 (fun _ h => h) rfl dX7_plan_94 ?_
      refine lv_bipush (v := (nI 59)) hx hb dX7_plan_97 (bi_59) ?_
      obtain ⟨hg, hf⟩ := gd_e hf
      refine va_iald (f := g92) hx hb hT hP 1 0 rfl rfl (inb_e hg) dX7_plan_99 ?_
      have hK9 := K0_of hf hK
      exact hRet (g92 (nI 59).toNatClampNeg) (mrow 1 (g92) (mrow 1 (g81) (mrow 1 (g70) (mrow 1 (g60) (mrow 1 (g50) f))))) _ _ _ _ hK9 dX7_plan_100 hP hD hS
    · have hf := if_t hf hc
      refine lv_bipush (v := (-3 : Int32)) hx hb dX7_plan_26 (bi_m3) ?_
      have hK9 := K0_of hf hK
      exact hRet (-3 : Int32) f _ _ _ _ hK9 dX7_plan_28 hP hD hS
  · have hf := if_t hf hc
    refine lv_iconst (v := (-1 : Int32)) hx hb dX7_plan_12 (ic_m1) ?_
    have hK9 := K0_of hf hK
    exact hRet (-1 : Int32) f _ _ _ _ hK9 dX7_plan_13 hP hD hS
noncomputable def p_X7_cut (f : Mem) (x1 : Int32) : Option (Int32 × Mem) :=
  gd (inb (nI 59) 360) <|
  Option.bind (p_X7_in ((x1).toInt64) (lN 0) ((f 1 (nI 59).toNatClampNeg).toInt64)) <| fun r12 =>
  Option.bind (p_X7_puts f r12 (nI 59) x1 (nI 0)) <| fun (r19, f_19) =>
  some (r19, f_19)
set_option maxHeartbeats 4000000 in
set_option maxRecDepth 100000 in
theorem c_X7_cut (l : Launch) (G : Gt) (ad : Nat → Nat) (f : Mem) (x1 : Int32) (r : Int32) (fz : Mem) (hf : p_X7_cut f x1 = some (r, fz)) (sz : Nat) : Met l yX7_cut wsX7_cut ({ frames := 2, cells := 0, slots := 0, locals := 37 }) (Pc0 G sz [.ref (ad 0), .int x1] (wX7 G ad f)) (Qi0 G (va_A (wX7 G ad f) sz) r (wX7 G ad fz)) 0 0 (va_A (wX7 G ad f) sz) := by
  refine metP (Qf := fun A => Qi0 G A r (wX7 G ad fz)) cX7_cut 2 (some .int) (by decide) rfl (Nat.le_of_ble_eq_true rfl) ?_
  intro p e s m below meth c A ls hC hr hlocks hin hE hA hsz hP hD hS hl
  generalize hargs : ([.ref (ad 0), .int x1] : List Value).toArray = args at hC ⊢
  obtain ⟨hx, hb, hml, hown, hts⟩ := id hC
  have hT : va_K G.1 vwCl (tyL G) s := hE.1
  have hRet : ∀ (r9 : Int32) (f9 : Mem) (H : Heap) (locs : List Loc) (ls : Array Slot) (pc : Nat) (hK9 : (r9, f9) = (r, fz)) (hdg : decode cX7_cut pc = .ok (.ireturn, 1)), va_P G.1 vwCl (wX7 G ad f9) H → va_D A (wX7 G ad f9) → va_S A s.heap H locs → W p l e ({ frames := 2, cells := 0, slots := 0, locals := 37 }) s m args below meth c H locs 0 0 (MQ below (Qi0 G A r (wX7 G ad fz)) args s 0 0 A) (F0 m pc ls [.int r9]) := by
    intro r9 f9 H locs ls pc hK9 hdg hP hD hS
    cases hK9
    exact W.iret hx hb hr (fun t ht hW => ⟨⟨r, (), rfl, rfl, by rw [ht]; exact hP, hD⟩, hS.F ht⟩) hS.2.2 hdg hlocks
  generalize MQ below (Qi0 G A r (wX7 G ad fz)) args s 0 0 A = Q at hRet ⊢
  have lk7 := hts (.fieldLink RX7 7 "FeatherSharesModel" "state" "[I") (by decide +kernel)
  have inX7 : ∀ w ∈ u_ws RX7 TX7 34, w ∈ wsX7_cut := by decide +kernel
  have hl : lv_has ls 2 [(0, .ref (ad 0)), (1, .int x1)] := hl
  have hK0 : (r, fz) = (r, fz) := rfl
  obtain ⟨res, hres, hK⟩ : ∃ res, p_X7_cut f x1 = some res ∧ res = (r, fz) := ⟨_, hf, rfl⟩
  clear hf
  have hf := hres
  clear hres
  unfold p_X7_cut at hf
  refine lv_aload_n hx hb dX7_cut_0 rfl (lv_at hl 0 rfl) ?_
  refine lv_iload_n hx hb dX7_cut_1 rfl (lv_at hl 1 rfl) ?_
  refine lv_i2l (v := ((x1).toInt64)) hx hb dX7_cut_2 rfl ?_
  refine lv_lconst (v := (lN 0)) hx hb dX7_cut_3 rfl ?_
  refine lv_aload_n hx hb dX7_cut_4 rfl (lv_at hl 0 rfl) ?_
  refine va_get (C := RX7) (T := TX7) (N := 34) (ci := 7) (v := .ref (ad 1)) hx hb hts inX7 hown hT hP 0 rfl rfl 0 (Nat.le_of_ble_eq_true rfl) lk7 (fun _ h => h) rfl dX7_cut_5 ?_
  refine lv_bipush (v := (nI 59)) hx hb dX7_cut_8 (bi_59) ?_
  obtain ⟨hg, hf⟩ := gd_e hf
  refine va_iald (f := f 1) hx hb hT hP 1 0 rfl rfl (inb_e hg) dX7_cut_10 ?_
  refine lv_i2l (v := ((f 1 (nI 59).toNatClampNeg).toInt64)) hx hb dX7_cut_11 rfl ?_
  obtain ⟨r12, hc12, hf⟩ := bd_e hf
  refine cl_z_ro (Wd := (wX7 G ad f)) (Wc := ([] : va_W)) [] rfl (va_runS (As := [.long ((x1).toInt64), .long (lN 0), .long ((f 1 (nI 59).toNatClampNeg).toInt64)]) (rest := [.ref (ad 0)]) hC (c_X7_in l G ((x1).toInt64) (lN 0) ((f 1 (nI 59).toNatClampNeg).toInt64) r12 hc12 _) (va_cwS 3 hts gX7_cut_X7_in rfl rfl rfl (by decide +kernel) ⟨Nat.le_of_ble_eq_true rfl, Nat.le_of_ble_eq_true rfl⟩) ⟨Pc0_blind, fun U hU hW => Pc0_at (Wd := ([] : va_W)) hE (hP.subm [] rfl) (hD.sub [] (by decide) rfl) hU hW⟩ rfl rfl hl.1 rfl (lv_room (Nat.le_of_ble_eq_true rfl)) dX7_cut_12 ⟨Nat.zero_le _, Nat.zero_le _⟩) hS hA hP hD (fun H locs hn12 hP hD hS => ?_)
  refine lv_bipush (v := (nI 59)) hx hb dX7_cut_15 (bi_59) ?_
  refine lv_iload_n hx hb dX7_cut_17 rfl (lv_at hl 1 rfl) ?_
  refine lv_iconst (v := (nI 0)) hx hb dX7_cut_18 (ic_0) ?_
  obtain ⟨⟨r19, f_19⟩, hc19, hf⟩ := bd_e hf
  try dsimp only at hf
  refine cl_i_same (Wd := (wX7 G ad f)) (W' := (wX7 G ad f_19)) (va_runV (As := [.int r12, .int (nI 59), .int x1, .int (nI 0)]) (rest := []) hC (c_X7_puts l G ad f r12 (nI 59) x1 (nI 0) r19 f_19 hc19 _) (cwV 4 hts gX7_cut_X7_puts rfl rfl rfl (by decide +kernel) ⟨Nat.le_of_ble_eq_true rfl, Nat.le_of_ble_eq_true rfl⟩) ⟨Pc0_blind, va_recv hT hP (q0 := 0) (ci := 7) rfl rfl, fun U hU hW => Pc0_at hE hP hD hU hW⟩ rfl rfl hl.1 rfl (lv_room (Nat.le_of_ble_eq_true rfl)) dX7_cut_19 ⟨Nat.zero_le _, Nat.zero_le _⟩) hS hA hD (fun H locs hP hD hS => ?_)
  have hK9 := K0_of hf hK
  exact hRet r19 f_19 _ _ _ _ hK9 dX7_cut_22 hP hD hS
noncomputable def p_X7_plucksOn_B34 (f : Mem) (x1 : Int32) (x2 : Int32) (x3 : Int32) (x4 : Int32) (x5 : Int32) (s0 : Int32) : Option (Int32 × Mem) :=
  if s0 = 0 then
    (gd (zb s0) <|
     some (s0, f))
  else
    (gd (inb (((x1 + (nI 19)) + ((nI 5) * x4)) + x3) 360) <|
     gd (inb (((x1 + (nI 19)) + ((nI 5) * x4)) + x3) 360) <|
     bnd (upd (f 1) (((x1 + (nI 19)) + ((nI 5) * x4)) + x3).toNatClampNeg ((f 1 (((x1 + (nI 19)) + ((nI 5) * x4)) + x3).toNatClampNeg) - x5)) <| fun g61 =>
     gd (inb (((x1 + (nI 19)) + ((nI 5) * x4)) + x2) 360) <|
     gd (inb (((x1 + (nI 19)) + ((nI 5) * x4)) + x2) 360) <|
     bnd (upd (g61) (((x1 + (nI 19)) + ((nI 5) * x4)) + x2).toNatClampNeg ((g61 (((x1 + (nI 19)) + ((nI 5) * x4)) + x2).toNatClampNeg) + x5)) <| fun g82 =>
     gd (zb s0) <|
     some (s0, (mrow 1 (g82) (mrow 1 (g61) f))))
noncomputable def p_X7_plucksOn_B33 (f : Mem) (x1 : Int32) (x2 : Int32) (x3 : Int32) (x4 : Int32) (x5 : Int32) : Option (Int32 × Mem) :=
  p_X7_plucksOn_B34 f x1 x2 x3 x4 x5 (nI 0)
noncomputable def p_X7_plucksOn (f : Mem) (x1 : Int32) (x2 : Int32) (x3 : Int32) (x4 : Int32) (x5 : Int32) : Option (Int32 × Mem) :=
  Option.bind (p_X7_shareOn f x1 x4 x3) <| fun r5 =>
  if r5 < x5 then
    (p_X7_plucksOn_B33 f x1 x2 x3 x4 x5)
  else
    (Option.bind (p_X7_shareOn f x1 x4 x2) <| fun r18 =>
     if (nI 99) < (r18 + x5) then
       (p_X7_plucksOn_B33 f x1 x2 x3 x4 x5)
     else
       (p_X7_plucksOn_B34 f x1 x2 x3 x4 x5 (nI 1)))
set_option maxHeartbeats 4000000 in
set_option maxRecDepth 100000 in
theorem c_X7_plucksOn (l : Launch) (G : Gt) (ad : Nat → Nat) (f : Mem) (x1 : Int32) (x2 : Int32) (x3 : Int32) (x4 : Int32) (x5 : Int32) (r : Int32) (fz : Mem) (hf : p_X7_plucksOn f x1 x2 x3 x4 x5 = some (r, fz)) (sz : Nat) : Met l yX7_plucksOn wsX7_plucksOn ({ frames := 2, cells := 0, slots := 0, locals := 35 }) (Pc0 G sz [.ref (ad 0), .int x1, .int x2, .int x3, .int x4, .int x5] (wX7 G ad f)) (Qz0 G (va_A (wX7 G ad f) sz) r (wX7 G ad fz)) 0 0 (va_A (wX7 G ad f) sz) := by
  refine metP (Qf := fun A => Qz0 G A r (wX7 G ad fz)) cX7_plucksOn 7 (some .boolean) (by decide) rfl (Nat.le_of_ble_eq_true rfl) ?_
  intro p e s m below meth c A ls hC hr hlocks hin hE hA hsz hP hD hS hl
  generalize hargs : ([.ref (ad 0), .int x1, .int x2, .int x3, .int x4, .int x5] : List Value).toArray = args at hC ⊢
  obtain ⟨hx, hb, hml, hown, hts⟩ := id hC
  have hT : va_K G.1 vwCl (tyL G) s := hE.1
  have hRet : ∀ (r9 : Int32) (f9 : Mem) (H : Heap) (locs : List Loc) (ls : Array Slot) (pc : Nat) (hK9 : (r9, f9) = (r, fz)) (hn9 : narrow .boolean (.int r9) = .int r9) (hdg : decode cX7_plucksOn pc = .ok (.ireturn, 1)), va_P G.1 vwCl (wX7 G ad f9) H → va_D A (wX7 G ad f9) → va_S A s.heap H locs → W p l e ({ frames := 2, cells := 0, slots := 0, locals := 35 }) s m args below meth c H locs 0 0 (MQ below (Qz0 G A r (wX7 G ad fz)) args s 0 0 A) (F0 m pc ls [.int r9]) := by
    intro r9 f9 H locs ls pc hK9 hn9 hdg hP hD hS
    cases hK9
    exact W.zret hx hb hr hn9 (fun t ht hW => ⟨⟨r, (), rfl, ⟨rfl, hn9⟩, by rw [ht]; exact hP, hD⟩, hS.F ht⟩) hS.2.2 hdg hlocks
  generalize MQ below (Qz0 G A r (wX7 G ad fz)) args s 0 0 A = Q at hRet ⊢
  have lk7 := hts (.fieldLink RX7 7 "FeatherSharesModel" "state" "[I") (by decide +kernel)
  have inX7 : ∀ w ∈ u_ws RX7 TX7 34, w ∈ wsX7_plucksOn := by decide +kernel
  have hl : lv_has ls 7 [(0, .ref (ad 0)), (1, .int x1), (2, .int x2), (3, .int x3), (4, .int x4), (5, .int x5)] := hl
  have hK0 : (r, fz) = (r, fz) := rfl
  have hB34 : ∀ (f : Mem) (x1 : Int32) (x2 : Int32) (x3 : Int32) (x4 : Int32) (x5 : Int32) (s0 : Int32) (res : Int32 × Mem) (hf : p_X7_plucksOn_B34 f x1 x2 x3 x4 x5 s0 = some res) (hK : res = (r, fz)), ∀ (H : Heap) (locs : List Loc) (ls : Array Slot), va_P G.1 vwCl (wX7 G ad f) H → va_D A (wX7 G ad f) → va_S A s.heap H locs → lv_has ls 7 [(0, .ref (ad 0)), (1, .int x1), (2, .int x2), (3, .int x3), (4, .int x4), (5, .int x5)] → W p l e ({ frames := 2, cells := 0, slots := 0, locals := 35 }) s m args below meth c H locs 0 0 Q (F0 m 34 ls [.int s0]) := by
    intro f x1 x2 x3 x4 x5 s0 res hf hK H locs ls hP hD hS hl
    unfold p_X7_plucksOn_B34 at hf
    refine lv_istore (lv' := [(6, .int s0), (0, .ref (ad 0)), (1, .int x1), (2, .int x2), (3, .int x3), (4, .int x4), (5, .int x5)]) hx hb dX7_plucksOn_34 hl (by decide) rfl (fun ls hl => ?_)
    refine lv_iload hx hb dX7_plucksOn_36 (lv_at hl 0 rfl) ?_
    refine lv_if_eq (tgt := 83) hx hb dX7_plucksOn_38 (by decide) (fun hc => ?_) (fun hc => ?_)
    · have hf := if_t hf hc
      refine lv_iload hx hb dX7_plucksOn_83 (lv_at hl 0 rfl) ?_
      obtain ⟨hg, hf⟩ := gd_e hf
      have hK9 := K0_of hf hK
      exact hRet s0 f _ _ _ _ hK9 (zb_e hg) dX7_plucksOn_85 hP hD hS
    · have hf := if_f hf hc
      refine lv_aload_n hx hb dX7_plucksOn_41 rfl (lv_at hl 1 rfl) ?_
      refine va_get (C := RX7) (T := TX7) (N := 34) (ci := 7) (v := .ref (ad 1)) hx hb hts inX7 hown hT hP 0 rfl rfl 0 (Nat.le_of_ble_eq_true rfl) lk7 (fun _ h => h) rfl dX7_plucksOn_42 ?_
      refine lv_iload_n hx hb dX7_plucksOn_45 rfl (lv_at hl 2 rfl) ?_
      refine lv_bipush (v := (nI 19)) hx hb dX7_plucksOn_46 (bi_19) ?_
      refine lv_iadd hx hb dX7_plucksOn_48 ?_
      refine lv_iconst (v := (nI 5)) hx hb dX7_plucksOn_49 (ic_5) ?_
      refine lv_iload hx hb dX7_plucksOn_50 (lv_at hl 5 rfl) ?_
      refine lv_imul hx hb dX7_plucksOn_52 ?_
      refine lv_iadd hx hb dX7_plucksOn_53 ?_
      refine lv_iload_n hx hb dX7_plucksOn_54 rfl (lv_at hl 4 rfl) ?_
      refine lv_iadd hx hb dX7_plucksOn_55 ?_
      refine lv_dup2_11 hx hb dX7_plucksOn_56 rfl rfl ?_
      obtain ⟨hg, hf⟩ := gd_e hf
      refine va_iald (f := f 1) hx hb hT hP 1 0 rfl rfl (inb_e hg) dX7_plucksOn_57 ?_
      refine lv_iload hx hb dX7_plucksOn_58 (lv_at hl 6 rfl) ?_
      refine lv_isub hx hb dX7_plucksOn_60 ?_
      obtain ⟨hg, hf⟩ := gd_e hf
      obtain ⟨g61, eg61, hf⟩ := bnd_e hf
      refine va_iast (f := f 1) hx hb hT hP hD hS 1 0 rfl rfl (inb_e hg) dX7_plucksOn_61 (fun H locs hP hD hS => ?_)
      rw [← eg61] at hP hD
      have hP : va_P G.1 vwCl (wX7 G ad (mrow 1 (g61) f)) H := hP
      have hD : va_D A (wX7 G ad (mrow 1 (g61) f)) := hD
      refine lv_aload_n hx hb dX7_plucksOn_62 rfl (lv_at hl 1 rfl) ?_
      refine va_get (C := RX7) (T := TX7) (N := 34) (ci := 7) (v := .ref (ad 1)) hx hb hts inX7 hown hT hP 0 rfl rfl 0 (Nat.le_of_ble_eq_true rfl) lk7 (fun _ h => h) rfl dX7_plucksOn_63 ?_
      refine lv_iload_n hx hb dX7_plucksOn_66 rfl (lv_at hl 2 rfl) ?_
      refine lv_bipush (v := (nI 19)) hx hb dX7_plucksOn_67 (bi_19) ?_
      refine lv_iadd hx hb dX7_plucksOn_69 ?_
      refine lv_iconst (v := (nI 5)) hx hb dX7_plucksOn_70 (ic_5) ?_
      refine lv_iload hx hb dX7_plucksOn_71 (lv_at hl 5 rfl) ?_
      refine lv_imul hx hb dX7_plucksOn_73 ?_
      refine lv_iadd hx hb dX7_plucksOn_74 ?_
      refine lv_iload_n hx hb dX7_plucksOn_75 rfl (lv_at hl 3 rfl) ?_
      refine lv_iadd hx hb dX7_plucksOn_76 ?_
      refine lv_dup2_11 hx hb dX7_plucksOn_77 rfl rfl ?_
      obtain ⟨hg, hf⟩ := gd_e hf
      refine va_iald (f := g61) hx hb hT hP 1 0 rfl rfl (inb_e hg) dX7_plucksOn_78 ?_
      refine lv_iload hx hb dX7_plucksOn_79 (lv_at hl 6 rfl) ?_
      refine lv_iadd hx hb dX7_plucksOn_81 ?_
      obtain ⟨hg, hf⟩ := gd_e hf
      obtain ⟨g82, eg82, hf⟩ := bnd_e hf
      refine va_iast (f := g61) hx hb hT hP hD hS 1 0 rfl rfl (inb_e hg) dX7_plucksOn_82 (fun H locs hP hD hS => ?_)
      rw [← eg82] at hP hD
      have hP : va_P G.1 vwCl (wX7 G ad (mrow 1 (g82) (mrow 1 (g61) f))) H := hP
      have hD : va_D A (wX7 G ad (mrow 1 (g82) (mrow 1 (g61) f))) := hD
      refine lv_iload hx hb dX7_plucksOn_83 (lv_at hl 0 rfl) ?_
      obtain ⟨hg, hf⟩ := gd_e hf
      have hK9 := K0_of hf hK
      exact hRet s0 (mrow 1 (g82) (mrow 1 (g61) f)) _ _ _ _ hK9 (zb_e hg) dX7_plucksOn_85 hP hD hS
  have hB33 : ∀ (f : Mem) (x1 : Int32) (x2 : Int32) (x3 : Int32) (x4 : Int32) (x5 : Int32) (res : Int32 × Mem) (hf : p_X7_plucksOn_B33 f x1 x2 x3 x4 x5 = some res) (hK : res = (r, fz)), ∀ (H : Heap) (locs : List Loc) (ls : Array Slot), va_P G.1 vwCl (wX7 G ad f) H → va_D A (wX7 G ad f) → va_S A s.heap H locs → lv_has ls 7 [(0, .ref (ad 0)), (1, .int x1), (2, .int x2), (3, .int x3), (4, .int x4), (5, .int x5)] → W p l e ({ frames := 2, cells := 0, slots := 0, locals := 35 }) s m args below meth c H locs 0 0 Q (F0 m 33 ls []) := by
    intro f x1 x2 x3 x4 x5 res hf hK H locs ls hP hD hS hl
    unfold p_X7_plucksOn_B33 at hf
    refine lv_iconst (v := (nI 0)) hx hb dX7_plucksOn_33 (ic_0) ?_
    exact hB34 f x1 x2 x3 x4 x5 (nI 0) _ hf hK _ _ _ hP hD hS (lv_sub hl [0, 1, 2, 3, 4, 5] rfl)
  obtain ⟨res, hres, hK⟩ : ∃ res, p_X7_plucksOn f x1 x2 x3 x4 x5 = some res ∧ res = (r, fz) := ⟨_, hf, rfl⟩
  clear hf
  have hf := hres
  clear hres
  unfold p_X7_plucksOn at hf
  refine lv_aload_n hx hb dX7_plucksOn_0 rfl (lv_at hl 0 rfl) ?_
  refine lv_iload_n hx hb dX7_plucksOn_1 rfl (lv_at hl 1 rfl) ?_
  refine lv_iload hx hb dX7_plucksOn_2 (lv_at hl 4 rfl) ?_
  refine lv_iload_n hx hb dX7_plucksOn_4 rfl (lv_at hl 3 rfl) ?_
  obtain ⟨r5, hc5, hf⟩ := bd_e hf
  refine cl_i_same (Wd := (wX7 G ad f)) (W' := (wX7 G ad f)) (va_runV (As := [.int x1, .int x4, .int x3]) (rest := []) hC (c_X7_shareOn l G ad f x1 x4 x3 r5 hc5 _) (cwV 3 hts gX7_plucksOn_X7_shareOn rfl rfl rfl (by decide +kernel) ⟨Nat.le_of_ble_eq_true rfl, Nat.le_of_ble_eq_true rfl⟩) ⟨Pc0_blind, va_recv hT hP (q0 := 0) (ci := 7) rfl rfl, fun U hU hW => Pc0_at hE hP hD hU hW⟩ rfl rfl hl.1 rfl (lv_room (Nat.le_of_ble_eq_true rfl)) dX7_plucksOn_5 ⟨Nat.zero_le _, Nat.zero_le _⟩) hS hA hD (fun H locs hP hD hS => ?_)
  refine lv_iload hx hb dX7_plucksOn_8 (lv_at hl 5 rfl) ?_
  refine lv_icmp_lt (tgt := 33) hx hb dX7_plucksOn_10 (by decide) (fun hc => ?_) (fun hc => ?_)
  · have hf := if_t hf hc
    exact hB33 f x1 x2 x3 x4 x5 _ hf hK _ _ _ hP hD hS (lv_sub hl [0, 1, 2, 3, 4, 5] rfl)
  · have hf := if_f hf hc
    refine lv_aload_n hx hb dX7_plucksOn_13 rfl (lv_at hl 0 rfl) ?_
    refine lv_iload_n hx hb dX7_plucksOn_14 rfl (lv_at hl 1 rfl) ?_
    refine lv_iload hx hb dX7_plucksOn_15 (lv_at hl 4 rfl) ?_
    refine lv_iload_n hx hb dX7_plucksOn_17 rfl (lv_at hl 2 rfl) ?_
    obtain ⟨r18, hc18, hf⟩ := bd_e hf
    refine cl_i_same (Wd := (wX7 G ad f)) (W' := (wX7 G ad f)) (va_runV (As := [.int x1, .int x4, .int x2]) (rest := []) hC (c_X7_shareOn l G ad f x1 x4 x2 r18 hc18 _) (cwV 3 hts gX7_plucksOn_X7_shareOn rfl rfl rfl (by decide +kernel) ⟨Nat.le_of_ble_eq_true rfl, Nat.le_of_ble_eq_true rfl⟩) ⟨Pc0_blind, va_recv hT hP (q0 := 0) (ci := 7) rfl rfl, fun U hU hW => Pc0_at hE hP hD hU hW⟩ rfl rfl hl.1 rfl (lv_room (Nat.le_of_ble_eq_true rfl)) dX7_plucksOn_18 ⟨Nat.zero_le _, Nat.zero_le _⟩) hS hA hD (fun H locs hP hD hS => ?_)
    refine lv_iload hx hb dX7_plucksOn_21 (lv_at hl 5 rfl) ?_
    refine lv_iadd hx hb dX7_plucksOn_23 ?_
    refine lv_bipush (v := (nI 99)) hx hb dX7_plucksOn_24 (bi_99) ?_
    refine lv_icmp_gt (tgt := 33) hx hb dX7_plucksOn_26 (by decide) (fun hc => ?_) (fun hc => ?_)
    · have hf := if_t hf hc
      exact hB33 f x1 x2 x3 x4 x5 _ hf hK _ _ _ hP hD hS (lv_sub hl [0, 1, 2, 3, 4, 5] rfl)
    · have hf := if_f hf hc
      refine lv_iconst (v := (nI 1)) hx hb dX7_plucksOn_29 (ic_1) ?_
      refine lv_goto (tgt := 34) hx hb dX7_plucksOn_30 (by decide) ?_
      exact hB34 f x1 x2 x3 x4 x5 (nI 1) _ hf hK _ _ _ hP hD hS (lv_sub hl [0, 1, 2, 3, 4, 5] rfl)
noncomputable def p_X7_buysOn_B62 (f : Mem) (x1 : Int32) (x2 : Int32) (x3 : Int32) (x6 : Int32) (s0 : Int32) : Option (Int32 × Mem) :=
  if s0 = 0 then
    (gd (zb s0) <|
     some (s0, f))
  else
    (gd (inb ((x1 + (nI 9)) + x2) 360) <|
     gd (inb ((x1 + (nI 9)) + x2) 360) <|
     bnd (upd (f 1) ((x1 + (nI 9)) + x2).toNatClampNeg ((f 1 ((x1 + (nI 9)) + x2).toNatClampNeg) - x6)) <| fun g84 =>
     gd (inb ((x1 + (nI 9)) + x3) 360) <|
     gd (inb ((x1 + (nI 9)) + x3) 360) <|
     bnd (upd (g84) ((x1 + (nI 9)) + x3).toNatClampNeg ((g84 ((x1 + (nI 9)) + x3).toNatClampNeg) + x6)) <| fun g100 =>
     gd (zb s0) <|
     some (s0, (mrow 1 (g100) (mrow 1 (g84) f))))
noncomputable def p_X7_buysOn_B61 (f : Mem) (x1 : Int32) (x2 : Int32) (x3 : Int32) (x6 : Int32) : Option (Int32 × Mem) :=
  p_X7_buysOn_B62 f x1 x2 x3 x6 (nI 0)
noncomputable def p_X7_buysOn (f : Mem) (x1 : Int32) (x2 : Int32) (x3 : Int32) (x4 : Int32) (x5 : Int32) : Option (Int32 × Mem) :=
  gd (inb ((x1 + (nI 6)) + x4) 360) <|
  Option.bind (p_X7_moneyOn f x1 x2) <| fun r20 =>
  if r20 < (x5 * (f 1 ((x1 + (nI 6)) + x4).toNatClampNeg)) then
    (p_X7_buysOn_B61 f x1 x2 x3 (x5 * (f 1 ((x1 + (nI 6)) + x4).toNatClampNeg)))
  else
    (Option.bind (p_X7_moneyOn f x1 x3) <| fun r31 =>
     if (nI 999) < (r31 + (x5 * (f 1 ((x1 + (nI 6)) + x4).toNatClampNeg))) then
       (p_X7_buysOn_B61 f x1 x2 x3 (x5 * (f 1 ((x1 + (nI 6)) + x4).toNatClampNeg)))
     else
       (Option.bind (p_X7_plucksOn f x1 x2 x3 x4 x5) <| fun (r51, f_51) =>
        if r51 = 0 then
          (p_X7_buysOn_B61 f_51 x1 x2 x3 (x5 * (f 1 ((x1 + (nI 6)) + x4).toNatClampNeg)))
        else
          (p_X7_buysOn_B62 f_51 x1 x2 x3 (x5 * (f 1 ((x1 + (nI 6)) + x4).toNatClampNeg)) (nI 1))))
set_option maxHeartbeats 4000000 in
set_option maxRecDepth 100000 in
theorem c_X7_buysOn (l : Launch) (G : Gt) (ad : Nat → Nat) (f : Mem) (x1 : Int32) (x2 : Int32) (x3 : Int32) (x4 : Int32) (x5 : Int32) (r : Int32) (fz : Mem) (hf : p_X7_buysOn f x1 x2 x3 x4 x5 = some (r, fz)) (sz : Nat) : Met l yX7_buysOn wsX7_buysOn ({ frames := 3, cells := 0, slots := 0, locals := 61 }) (Pc0 G sz [.ref (ad 0), .int x1, .int x2, .int x3, .int x4, .int x5] (wX7 G ad f)) (Qz0 G (va_A (wX7 G ad f) sz) r (wX7 G ad fz)) 0 0 (va_A (wX7 G ad f) sz) := by
  refine metP (Qf := fun A => Qz0 G A r (wX7 G ad fz)) cX7_buysOn 8 (some .boolean) (by decide) rfl (Nat.le_of_ble_eq_true rfl) ?_
  intro p e s m below meth c A ls hC hr hlocks hin hE hA hsz hP hD hS hl
  generalize hargs : ([.ref (ad 0), .int x1, .int x2, .int x3, .int x4, .int x5] : List Value).toArray = args at hC ⊢
  obtain ⟨hx, hb, hml, hown, hts⟩ := id hC
  have hT : va_K G.1 vwCl (tyL G) s := hE.1
  have hRet : ∀ (r9 : Int32) (f9 : Mem) (H : Heap) (locs : List Loc) (ls : Array Slot) (pc : Nat) (hK9 : (r9, f9) = (r, fz)) (hn9 : narrow .boolean (.int r9) = .int r9) (hdg : decode cX7_buysOn pc = .ok (.ireturn, 1)), va_P G.1 vwCl (wX7 G ad f9) H → va_D A (wX7 G ad f9) → va_S A s.heap H locs → W p l e ({ frames := 3, cells := 0, slots := 0, locals := 61 }) s m args below meth c H locs 0 0 (MQ below (Qz0 G A r (wX7 G ad fz)) args s 0 0 A) (F0 m pc ls [.int r9]) := by
    intro r9 f9 H locs ls pc hK9 hn9 hdg hP hD hS
    cases hK9
    exact W.zret hx hb hr hn9 (fun t ht hW => ⟨⟨r, (), rfl, ⟨rfl, hn9⟩, by rw [ht]; exact hP, hD⟩, hS.F ht⟩) hS.2.2 hdg hlocks
  generalize MQ below (Qz0 G A r (wX7 G ad fz)) args s 0 0 A = Q at hRet ⊢
  have lk7 := hts (.fieldLink RX7 7 "FeatherSharesModel" "state" "[I") (by decide +kernel)
  have inX7 : ∀ w ∈ u_ws RX7 TX7 34, w ∈ wsX7_buysOn := by decide +kernel
  have hl : lv_has ls 8 [(0, .ref (ad 0)), (1, .int x1), (2, .int x2), (3, .int x3), (4, .int x4), (5, .int x5)] := hl
  have hK0 : (r, fz) = (r, fz) := rfl
  have hB62 : ∀ (f : Mem) (x1 : Int32) (x2 : Int32) (x3 : Int32) (x6 : Int32) (s0 : Int32) (res : Int32 × Mem) (hf : p_X7_buysOn_B62 f x1 x2 x3 x6 s0 = some res) (hK : res = (r, fz)), ∀ (H : Heap) (locs : List Loc) (ls : Array Slot), va_P G.1 vwCl (wX7 G ad f) H → va_D A (wX7 G ad f) → va_S A s.heap H locs → lv_has ls 8 [(0, .ref (ad 0)), (1, .int x1), (2, .int x2), (3, .int x3), (6, .int x6)] → W p l e ({ frames := 3, cells := 0, slots := 0, locals := 61 }) s m args below meth c H locs 0 0 Q (F0 m 62 ls [.int s0]) := by
    intro f x1 x2 x3 x6 s0 res hf hK H locs ls hP hD hS hl
    unfold p_X7_buysOn_B62 at hf
    refine lv_istore (lv' := [(7, .int s0), (0, .ref (ad 0)), (1, .int x1), (2, .int x2), (3, .int x3), (6, .int x6)]) hx hb dX7_buysOn_62 hl (by decide) rfl (fun ls hl => ?_)
    refine lv_iload hx hb dX7_buysOn_64 (lv_at hl 0 rfl) ?_
    refine lv_if_eq (tgt := 101) hx hb dX7_buysOn_66 (by decide) (fun hc => ?_) (fun hc => ?_)
    · have hf := if_t hf hc
      refine lv_iload hx hb dX7_buysOn_101 (lv_at hl 0 rfl) ?_
      obtain ⟨hg, hf⟩ := gd_e hf
      have hK9 := K0_of hf hK
      exact hRet s0 f _ _ _ _ hK9 (zb_e hg) dX7_buysOn_103 hP hD hS
    · have hf := if_f hf hc
      refine lv_aload_n hx hb dX7_buysOn_69 rfl (lv_at hl 1 rfl) ?_
      refine va_get (C := RX7) (T := TX7) (N := 34) (ci := 7) (v := .ref (ad 1)) hx hb hts inX7 hown hT hP 0 rfl rfl 0 (Nat.le_of_ble_eq_true rfl) lk7 (fun _ h => h) rfl dX7_buysOn_70 ?_
      refine lv_iload_n hx hb dX7_buysOn_73 rfl (lv_at hl 2 rfl) ?_
      refine lv_bipush (v := (nI 9)) hx hb dX7_buysOn_74 (bi_9) ?_
      refine lv_iadd hx hb dX7_buysOn_76 ?_
      refine lv_iload_n hx hb dX7_buysOn_77 rfl (lv_at hl 3 rfl) ?_
      refine lv_iadd hx hb dX7_buysOn_78 ?_
      refine lv_dup2_11 hx hb dX7_buysOn_79 rfl rfl ?_
      obtain ⟨hg, hf⟩ := gd_e hf
      refine va_iald (f := f 1) hx hb hT hP 1 0 rfl rfl (inb_e hg) dX7_buysOn_80 ?_
      refine lv_iload hx hb dX7_buysOn_81 (lv_at hl 5 rfl) ?_
      refine lv_isub hx hb dX7_buysOn_83 ?_
      obtain ⟨hg, hf⟩ := gd_e hf
      obtain ⟨g84, eg84, hf⟩ := bnd_e hf
      refine va_iast (f := f 1) hx hb hT hP hD hS 1 0 rfl rfl (inb_e hg) dX7_buysOn_84 (fun H locs hP hD hS => ?_)
      rw [← eg84] at hP hD
      have hP : va_P G.1 vwCl (wX7 G ad (mrow 1 (g84) f)) H := hP
      have hD : va_D A (wX7 G ad (mrow 1 (g84) f)) := hD
      refine lv_aload_n hx hb dX7_buysOn_85 rfl (lv_at hl 1 rfl) ?_
      refine va_get (C := RX7) (T := TX7) (N := 34) (ci := 7) (v := .ref (ad 1)) hx hb hts inX7 hown hT hP 0 rfl rfl 0 (Nat.le_of_ble_eq_true rfl) lk7 (fun _ h => h) rfl dX7_buysOn_86 ?_
      refine lv_iload_n hx hb dX7_buysOn_89 rfl (lv_at hl 2 rfl) ?_
      refine lv_bipush (v := (nI 9)) hx hb dX7_buysOn_90 (bi_9) ?_
      refine lv_iadd hx hb dX7_buysOn_92 ?_
      refine lv_iload_n hx hb dX7_buysOn_93 rfl (lv_at hl 4 rfl) ?_
      refine lv_iadd hx hb dX7_buysOn_94 ?_
      refine lv_dup2_11 hx hb dX7_buysOn_95 rfl rfl ?_
      obtain ⟨hg, hf⟩ := gd_e hf
      refine va_iald (f := g84) hx hb hT hP 1 0 rfl rfl (inb_e hg) dX7_buysOn_96 ?_
      refine lv_iload hx hb dX7_buysOn_97 (lv_at hl 5 rfl) ?_
      refine lv_iadd hx hb dX7_buysOn_99 ?_
      obtain ⟨hg, hf⟩ := gd_e hf
      obtain ⟨g100, eg100, hf⟩ := bnd_e hf
      refine va_iast (f := g84) hx hb hT hP hD hS 1 0 rfl rfl (inb_e hg) dX7_buysOn_100 (fun H locs hP hD hS => ?_)
      rw [← eg100] at hP hD
      have hP : va_P G.1 vwCl (wX7 G ad (mrow 1 (g100) (mrow 1 (g84) f))) H := hP
      have hD : va_D A (wX7 G ad (mrow 1 (g100) (mrow 1 (g84) f))) := hD
      refine lv_iload hx hb dX7_buysOn_101 (lv_at hl 0 rfl) ?_
      obtain ⟨hg, hf⟩ := gd_e hf
      have hK9 := K0_of hf hK
      exact hRet s0 (mrow 1 (g100) (mrow 1 (g84) f)) _ _ _ _ hK9 (zb_e hg) dX7_buysOn_103 hP hD hS
  have hB61 : ∀ (f : Mem) (x1 : Int32) (x2 : Int32) (x3 : Int32) (x6 : Int32) (res : Int32 × Mem) (hf : p_X7_buysOn_B61 f x1 x2 x3 x6 = some res) (hK : res = (r, fz)), ∀ (H : Heap) (locs : List Loc) (ls : Array Slot), va_P G.1 vwCl (wX7 G ad f) H → va_D A (wX7 G ad f) → va_S A s.heap H locs → lv_has ls 8 [(0, .ref (ad 0)), (1, .int x1), (2, .int x2), (3, .int x3), (6, .int x6)] → W p l e ({ frames := 3, cells := 0, slots := 0, locals := 61 }) s m args below meth c H locs 0 0 Q (F0 m 61 ls []) := by
    intro f x1 x2 x3 x6 res hf hK H locs ls hP hD hS hl
    unfold p_X7_buysOn_B61 at hf
    refine lv_iconst (v := (nI 0)) hx hb dX7_buysOn_61 (ic_0) ?_
    exact hB62 f x1 x2 x3 x6 (nI 0) _ hf hK _ _ _ hP hD hS (lv_sub hl [0, 1, 2, 3, 4] rfl)
  obtain ⟨res, hres, hK⟩ : ∃ res, p_X7_buysOn f x1 x2 x3 x4 x5 = some res ∧ res = (r, fz) := ⟨_, hf, rfl⟩
  clear hf
  have hf := hres
  clear hres
  unfold p_X7_buysOn at hf
  refine lv_iload hx hb dX7_buysOn_0 (lv_at hl 5 rfl) ?_
  refine lv_aload_n hx hb dX7_buysOn_2 rfl (lv_at hl 0 rfl) ?_
  refine va_get (C := RX7) (T := TX7) (N := 34) (ci := 7) (v := .ref (ad 1)) hx hb hts inX7 hown hT hP 0 rfl rfl 0 (Nat.le_of_ble_eq_true rfl) lk7 (fun _ h => h) rfl dX7_buysOn_3 ?_
  refine lv_iload_n hx hb dX7_buysOn_6 rfl (lv_at hl 1 rfl) ?_
  refine lv_bipush (v := (nI 6)) hx hb dX7_buysOn_7 (bi_6) ?_
  refine lv_iadd hx hb dX7_buysOn_9 ?_
  refine lv_iload hx hb dX7_buysOn_10 (lv_at hl 4 rfl) ?_
  refine lv_iadd hx hb dX7_buysOn_12 ?_
  obtain ⟨hg, hf⟩ := gd_e hf
  refine va_iald (f := f 1) hx hb hT hP 1 0 rfl rfl (inb_e hg) dX7_buysOn_13 ?_
  refine lv_imul hx hb dX7_buysOn_14 ?_
  refine lv_istore (lv' := [(6, .int (x5 * (f 1 ((x1 + (nI 6)) + x4).toNatClampNeg))), (0, .ref (ad 0)), (1, .int x1), (2, .int x2), (3, .int x3), (4, .int x4), (5, .int x5)]) hx hb dX7_buysOn_15 hl (by decide) rfl (fun ls hl => ?_)
  refine lv_aload_n hx hb dX7_buysOn_17 rfl (lv_at hl 1 rfl) ?_
  refine lv_iload_n hx hb dX7_buysOn_18 rfl (lv_at hl 2 rfl) ?_
  refine lv_iload_n hx hb dX7_buysOn_19 rfl (lv_at hl 3 rfl) ?_
  obtain ⟨r20, hc20, hf⟩ := bd_e hf
  refine cl_i_same (Wd := (wX7 G ad f)) (W' := (wX7 G ad f)) (va_runV (As := [.int x1, .int x2]) (rest := []) hC (c_X7_moneyOn l G ad f x1 x2 r20 hc20 _) (cwV 2 hts gX7_buysOn_X7_moneyOn rfl rfl rfl (by decide +kernel) ⟨Nat.le_of_ble_eq_true rfl, Nat.le_of_ble_eq_true rfl⟩) ⟨Pc0_blind, va_recv hT hP (q0 := 0) (ci := 7) rfl rfl, fun U hU hW => Pc0_at hE hP hD hU hW⟩ rfl rfl hl.1 rfl (lv_room (Nat.le_of_ble_eq_true rfl)) dX7_buysOn_20 ⟨Nat.zero_le _, Nat.zero_le _⟩) hS hA hD (fun H locs hP hD hS => ?_)
  refine lv_iload hx hb dX7_buysOn_23 (lv_at hl 0 rfl) ?_
  refine lv_icmp_lt (tgt := 61) hx hb dX7_buysOn_25 (by decide) (fun hc => ?_) (fun hc => ?_)
  · have hf := if_t hf hc
    exact hB61 f x1 x2 x3 (x5 * (f 1 ((x1 + (nI 6)) + x4).toNatClampNeg)) _ hf hK _ _ _ hP hD hS (lv_sub hl [1, 2, 3, 4, 0] rfl)
  · have hf := if_f hf hc
    refine lv_aload_n hx hb dX7_buysOn_28 rfl (lv_at hl 1 rfl) ?_
    refine lv_iload_n hx hb dX7_buysOn_29 rfl (lv_at hl 2 rfl) ?_
    refine lv_iload_n hx hb dX7_buysOn_30 rfl (lv_at hl 4 rfl) ?_
    obtain ⟨r31, hc31, hf⟩ := bd_e hf
    refine cl_i_same (Wd := (wX7 G ad f)) (W' := (wX7 G ad f)) (va_runV (As := [.int x1, .int x3]) (rest := []) hC (c_X7_moneyOn l G ad f x1 x3 r31 hc31 _) (cwV 2 hts gX7_buysOn_X7_moneyOn rfl rfl rfl (by decide +kernel) ⟨Nat.le_of_ble_eq_true rfl, Nat.le_of_ble_eq_true rfl⟩) ⟨Pc0_blind, va_recv hT hP (q0 := 0) (ci := 7) rfl rfl, fun U hU hW => Pc0_at hE hP hD hU hW⟩ rfl rfl hl.1 rfl (lv_room (Nat.le_of_ble_eq_true rfl)) dX7_buysOn_31 ⟨Nat.zero_le _, Nat.zero_le _⟩) hS hA hD (fun H locs hP hD hS => ?_)
    refine lv_iload hx hb dX7_buysOn_34 (lv_at hl 0 rfl) ?_
    refine lv_iadd hx hb dX7_buysOn_36 ?_
    refine lv_sipush (v := (nI 999)) hx hb dX7_buysOn_37 (si_999) ?_
    refine lv_icmp_gt (tgt := 61) hx hb dX7_buysOn_40 (by decide) (fun hc => ?_) (fun hc => ?_)
    · have hf := if_t hf hc
      exact hB61 f x1 x2 x3 (x5 * (f 1 ((x1 + (nI 6)) + x4).toNatClampNeg)) _ hf hK _ _ _ hP hD hS (lv_sub hl [1, 2, 3, 4, 0] rfl)
    · have hf := if_f hf hc
      refine lv_aload_n hx hb dX7_buysOn_43 rfl (lv_at hl 1 rfl) ?_
      refine lv_iload_n hx hb dX7_buysOn_44 rfl (lv_at hl 2 rfl) ?_
      refine lv_iload_n hx hb dX7_buysOn_45 rfl (lv_at hl 3 rfl) ?_
      refine lv_iload_n hx hb dX7_buysOn_46 rfl (lv_at hl 4 rfl) ?_
      refine lv_iload hx hb dX7_buysOn_47 (lv_at hl 5 rfl) ?_
      refine lv_iload hx hb dX7_buysOn_49 (lv_at hl 6 rfl) ?_
      obtain ⟨⟨r51, f_51⟩, hc51, hf⟩ := bd_e hf
      try dsimp only at hf
      refine cl_z_same (Wd := (wX7 G ad f)) (W' := (wX7 G ad f_51)) (va_runV (As := [.int x1, .int x2, .int x3, .int x4, .int x5]) (rest := []) hC (c_X7_plucksOn l G ad f x1 x2 x3 x4 x5 r51 f_51 hc51 _) (cwV 5 hts gX7_buysOn_X7_plucksOn rfl rfl rfl (by decide +kernel) ⟨Nat.le_of_ble_eq_true rfl, Nat.le_of_ble_eq_true rfl⟩) ⟨Pc0_blind, va_recv hT hP (q0 := 0) (ci := 7) rfl rfl, fun U hU hW => Pc0_at hE hP hD hU hW⟩ rfl rfl hl.1 rfl (lv_room (Nat.le_of_ble_eq_true rfl)) dX7_buysOn_51 ⟨Nat.zero_le _, Nat.zero_le _⟩) hS hA hD (fun H locs hn51 hP hD hS => ?_)
      refine lv_if_eq (tgt := 61) hx hb dX7_buysOn_54 (by decide) (fun hc => ?_) (fun hc => ?_)
      · have hf := if_t hf hc
        exact hB61 f_51 x1 x2 x3 (x5 * (f 1 ((x1 + (nI 6)) + x4).toNatClampNeg)) _ hf hK _ _ _ hP hD hS (lv_sub hl [1, 2, 3, 4, 0] rfl)
      · have hf := if_f hf hc
        refine lv_iconst (v := (nI 1)) hx hb dX7_buysOn_57 (ic_1) ?_
        refine lv_goto (tgt := 62) hx hb dX7_buysOn_58 (by decide) ?_
        exact hB62 f_51 x1 x2 x3 (x5 * (f 1 ((x1 + (nI 6)) + x4).toNatClampNeg)) (nI 1) _ hf hK _ _ _ hP hD hS (lv_sub hl [1, 2, 3, 4, 0] rfl)
noncomputable def p_X7_buys (f : Mem) (x1 : Int32) (x2 : Int32) (x3 : Int32) (x4 : Int32) : Option (Int32 × Mem) :=
  Option.bind (p_X7_isTrade f x1 x2 x3 x4) <| fun r6 =>
  if r6 = 0 then
    (some ((-1 : Int32), f))
  else
    (Option.bind (p_X7_buysOn f (nI 0) x1 x2 x3 x4) <| fun (r21, f_21) =>
     if r21 = 0 then
       (some ((-2 : Int32), f_21))
     else
       (Option.bind (p_X7_moneyOn f_21 (nI 0) x1) <| fun r30 =>
        some (r30, f_21)))
set_option maxHeartbeats 4000000 in
set_option maxRecDepth 100000 in
theorem c_X7_buys (l : Launch) (G : Gt) (ad : Nat → Nat) (f : Mem) (x1 : Int32) (x2 : Int32) (x3 : Int32) (x4 : Int32) (r : Int32) (fz : Mem) (hf : p_X7_buys f x1 x2 x3 x4 = some (r, fz)) (sz : Nat) : Met l yX7_buys wsX7_buys ({ frames := 4, cells := 0, slots := 0, locals := 88 }) (Pc0 G sz [.ref (ad 0), .int x1, .int x2, .int x3, .int x4] (wX7 G ad f)) (Qi0 G (va_A (wX7 G ad f) sz) r (wX7 G ad fz)) 0 0 (va_A (wX7 G ad f) sz) := by
  refine metP (Qf := fun A => Qi0 G A r (wX7 G ad fz)) cX7_buys 5 (some .int) (by decide) rfl (Nat.le_of_ble_eq_true rfl) ?_
  intro p e s m below meth c A ls hC hr hlocks hin hE hA hsz hP hD hS hl
  generalize hargs : ([.ref (ad 0), .int x1, .int x2, .int x3, .int x4] : List Value).toArray = args at hC ⊢
  obtain ⟨hx, hb, hml, hown, hts⟩ := id hC
  have hT : va_K G.1 vwCl (tyL G) s := hE.1
  have hRet : ∀ (r9 : Int32) (f9 : Mem) (H : Heap) (locs : List Loc) (ls : Array Slot) (pc : Nat) (hK9 : (r9, f9) = (r, fz)) (hdg : decode cX7_buys pc = .ok (.ireturn, 1)), va_P G.1 vwCl (wX7 G ad f9) H → va_D A (wX7 G ad f9) → va_S A s.heap H locs → W p l e ({ frames := 4, cells := 0, slots := 0, locals := 88 }) s m args below meth c H locs 0 0 (MQ below (Qi0 G A r (wX7 G ad fz)) args s 0 0 A) (F0 m pc ls [.int r9]) := by
    intro r9 f9 H locs ls pc hK9 hdg hP hD hS
    cases hK9
    exact W.iret hx hb hr (fun t ht hW => ⟨⟨r, (), rfl, rfl, by rw [ht]; exact hP, hD⟩, hS.F ht⟩) hS.2.2 hdg hlocks
  generalize MQ below (Qi0 G A r (wX7 G ad fz)) args s 0 0 A = Q at hRet ⊢
  have hl : lv_has ls 5 [(0, .ref (ad 0)), (1, .int x1), (2, .int x2), (3, .int x3), (4, .int x4)] := hl
  have hK0 : (r, fz) = (r, fz) := rfl
  obtain ⟨res, hres, hK⟩ : ∃ res, p_X7_buys f x1 x2 x3 x4 = some res ∧ res = (r, fz) := ⟨_, hf, rfl⟩
  clear hf
  have hf := hres
  clear hres
  unfold p_X7_buys at hf
  refine lv_aload_n hx hb dX7_buys_0 rfl (lv_at hl 0 rfl) ?_
  refine lv_iload_n hx hb dX7_buys_1 rfl (lv_at hl 1 rfl) ?_
  refine lv_iload_n hx hb dX7_buys_2 rfl (lv_at hl 2 rfl) ?_
  refine lv_iload_n hx hb dX7_buys_3 rfl (lv_at hl 3 rfl) ?_
  refine lv_iload hx hb dX7_buys_4 (lv_at hl 4 rfl) ?_
  obtain ⟨r6, hc6, hf⟩ := bd_e hf
  refine cl_z_same (Wd := (wX7 G ad f)) (W' := (wX7 G ad f)) (va_runV (As := [.int x1, .int x2, .int x3, .int x4]) (rest := []) hC (c_X7_isTrade l G ad f x1 x2 x3 x4 r6 hc6 _) (cwV 4 hts gX7_buys_X7_isTrade rfl rfl rfl (by decide +kernel) ⟨Nat.le_of_ble_eq_true rfl, Nat.le_of_ble_eq_true rfl⟩) ⟨Pc0_blind, va_recv hT hP (q0 := 0) (ci := 7) rfl rfl, fun U hU hW => Pc0_at hE hP hD hU hW⟩ rfl rfl hl.1 rfl (lv_room (Nat.le_of_ble_eq_true rfl)) dX7_buys_6 ⟨Nat.zero_le _, Nat.zero_le _⟩) hS hA hD (fun H locs hn6 hP hD hS => ?_)
  refine lv_if_ne (tgt := 14) hx hb dX7_buys_9 (by decide) (fun hc => ?_) (fun hc => ?_)
  · have hf := if_f hf hc
    refine lv_aload_n hx hb dX7_buys_14 rfl (lv_at hl 0 rfl) ?_
    refine lv_iconst (v := (nI 0)) hx hb dX7_buys_15 (ic_0) ?_
    refine lv_iload_n hx hb dX7_buys_16 rfl (lv_at hl 1 rfl) ?_
    refine lv_iload_n hx hb dX7_buys_17 rfl (lv_at hl 2 rfl) ?_
    refine lv_iload_n hx hb dX7_buys_18 rfl (lv_at hl 3 rfl) ?_
    refine lv_iload hx hb dX7_buys_19 (lv_at hl 4 rfl) ?_
    obtain ⟨⟨r21, f_21⟩, hc21, hf⟩ := bd_e hf
    try dsimp only at hf
    refine cl_z_same (Wd := (wX7 G ad f)) (W' := (wX7 G ad f_21)) (va_runV (As := [.int (nI 0), .int x1, .int x2, .int x3, .int x4]) (rest := []) hC (c_X7_buysOn l G ad f (nI 0) x1 x2 x3 x4 r21 f_21 hc21 _) (cwV 5 hts gX7_buys_X7_buysOn rfl rfl rfl (by decide +kernel) ⟨Nat.le_of_ble_eq_true rfl, Nat.le_of_ble_eq_true rfl⟩) ⟨Pc0_blind, va_recv hT hP (q0 := 0) (ci := 7) rfl rfl, fun U hU hW => Pc0_at hE hP hD hU hW⟩ rfl rfl hl.1 rfl (lv_room (Nat.le_of_ble_eq_true rfl)) dX7_buys_21 ⟨Nat.zero_le _, Nat.zero_le _⟩) hS hA hD (fun H locs hn21 hP hD hS => ?_)
    refine lv_if_eq (tgt := 36) hx hb dX7_buys_24 (by decide) (fun hc => ?_) (fun hc => ?_)
    · have hf := if_t hf hc
      refine lv_bipush (v := (-2 : Int32)) hx hb dX7_buys_36 (bi_m2) ?_
      have hK9 := K0_of hf hK
      exact hRet (-2 : Int32) f_21 _ _ _ _ hK9 dX7_buys_38 hP hD hS
    · have hf := if_f hf hc
      refine lv_aload_n hx hb dX7_buys_27 rfl (lv_at hl 0 rfl) ?_
      refine lv_iconst (v := (nI 0)) hx hb dX7_buys_28 (ic_0) ?_
      refine lv_iload_n hx hb dX7_buys_29 rfl (lv_at hl 1 rfl) ?_
      obtain ⟨r30, hc30, hf⟩ := bd_e hf
      refine cl_i_same (Wd := (wX7 G ad f_21)) (W' := (wX7 G ad f_21)) (va_runV (As := [.int (nI 0), .int x1]) (rest := []) hC (c_X7_moneyOn l G ad f_21 (nI 0) x1 r30 hc30 _) (cwV 2 hts gX7_buys_X7_moneyOn rfl rfl rfl (by decide +kernel) ⟨Nat.le_of_ble_eq_true rfl, Nat.le_of_ble_eq_true rfl⟩) ⟨Pc0_blind, va_recv hT hP (q0 := 0) (ci := 7) rfl rfl, fun U hU hW => Pc0_at hE hP hD hU hW⟩ rfl rfl hl.1 rfl (lv_room (Nat.le_of_ble_eq_true rfl)) dX7_buys_30 ⟨Nat.zero_le _, Nat.zero_le _⟩) hS hA hD (fun H locs hP hD hS => ?_)
      refine lv_goto (tgt := 38) hx hb dX7_buys_33 (by decide) ?_
      have hK9 := K0_of hf hK
      exact hRet r30 f_21 _ _ _ _ hK9 dX7_buys_38 hP hD hS
  · have hf := if_t hf hc
    refine lv_iconst (v := (-1 : Int32)) hx hb dX7_buys_12 (ic_m1) ?_
    have hK9 := K0_of hf hK
    exact hRet (-1 : Int32) f _ _ _ _ hK9 dX7_buys_13 hP hD hS
noncomputable def p_X7_buy (f : Mem) (x1 : Int32) (x2 : Int32) (x3 : Int32) (x4 : Int32) : Option (Int32 × Mem) :=
  Option.bind (p_X7_buys f x1 x2 x3 x4) <| fun (r6, f_6) =>
  some (r6, f_6)
set_option maxHeartbeats 4000000 in
set_option maxRecDepth 100000 in
theorem c_X7_buy (l : Launch) (G : Gt) (ad : Nat → Nat) (f : Mem) (x1 : Int32) (x2 : Int32) (x3 : Int32) (x4 : Int32) (r : Int32) (fz : Mem) (hf : p_X7_buy f x1 x2 x3 x4 = some (r, fz)) (sz : Nat) : Met l yX7_buy wsX7_buy ({ frames := 5, cells := 0, slots := 0, locals := 112 }) (Pc0 G sz [.ref (ad 0), .int x1, .int x2, .int x3, .int x4] (wX7 G ad f)) (Qi0 G (va_A (wX7 G ad f) sz) r (wX7 G ad fz)) 0 0 (va_A (wX7 G ad f) sz) := by
  refine metP (Qf := fun A => Qi0 G A r (wX7 G ad fz)) cX7_buy 5 (some .int) (by decide) rfl (Nat.le_of_ble_eq_true rfl) ?_
  intro p e s m below meth c A ls hC hr hlocks hin hE hA hsz hP hD hS hl
  generalize hargs : ([.ref (ad 0), .int x1, .int x2, .int x3, .int x4] : List Value).toArray = args at hC ⊢
  obtain ⟨hx, hb, hml, hown, hts⟩ := id hC
  have hT : va_K G.1 vwCl (tyL G) s := hE.1
  have hRet : ∀ (r9 : Int32) (f9 : Mem) (H : Heap) (locs : List Loc) (ls : Array Slot) (pc : Nat) (hK9 : (r9, f9) = (r, fz)) (hdg : decode cX7_buy pc = .ok (.ireturn, 1)), va_P G.1 vwCl (wX7 G ad f9) H → va_D A (wX7 G ad f9) → va_S A s.heap H locs → W p l e ({ frames := 5, cells := 0, slots := 0, locals := 112 }) s m args below meth c H locs 0 0 (MQ below (Qi0 G A r (wX7 G ad fz)) args s 0 0 A) (F0 m pc ls [.int r9]) := by
    intro r9 f9 H locs ls pc hK9 hdg hP hD hS
    cases hK9
    exact W.iret hx hb hr (fun t ht hW => ⟨⟨r, (), rfl, rfl, by rw [ht]; exact hP, hD⟩, hS.F ht⟩) hS.2.2 hdg hlocks
  generalize MQ below (Qi0 G A r (wX7 G ad fz)) args s 0 0 A = Q at hRet ⊢
  have hl : lv_has ls 5 [(0, .ref (ad 0)), (1, .int x1), (2, .int x2), (3, .int x3), (4, .int x4)] := hl
  have hK0 : (r, fz) = (r, fz) := rfl
  obtain ⟨res, hres, hK⟩ : ∃ res, p_X7_buy f x1 x2 x3 x4 = some res ∧ res = (r, fz) := ⟨_, hf, rfl⟩
  clear hf
  have hf := hres
  clear hres
  unfold p_X7_buy at hf
  refine lv_aload_n hx hb dX7_buy_0 rfl (lv_at hl 0 rfl) ?_
  refine lv_iload_n hx hb dX7_buy_1 rfl (lv_at hl 1 rfl) ?_
  refine lv_iload_n hx hb dX7_buy_2 rfl (lv_at hl 2 rfl) ?_
  refine lv_iload_n hx hb dX7_buy_3 rfl (lv_at hl 3 rfl) ?_
  refine lv_iload hx hb dX7_buy_4 (lv_at hl 4 rfl) ?_
  obtain ⟨⟨r6, f_6⟩, hc6, hf⟩ := bd_e hf
  try dsimp only at hf
  refine cl_i_same (Wd := (wX7 G ad f)) (W' := (wX7 G ad f_6)) (va_runV (As := [.int x1, .int x2, .int x3, .int x4]) (rest := []) hC (c_X7_buys l G ad f x1 x2 x3 x4 r6 f_6 hc6 _) (cwV 4 hts gX7_buy_X7_buys rfl rfl rfl (by decide +kernel) ⟨Nat.le_of_ble_eq_true rfl, Nat.le_of_ble_eq_true rfl⟩) ⟨Pc0_blind, va_recv hT hP (q0 := 0) (ci := 7) rfl rfl, fun U hU hW => Pc0_at hE hP hD hU hW⟩ rfl rfl hl.1 rfl (lv_room (Nat.le_of_ble_eq_true rfl)) dX7_buy_6 ⟨Nat.zero_le _, Nat.zero_le _⟩) hS hA hD (fun H locs hP hD hS => ?_)
  have hK9 := K0_of hf hK
  exact hRet r6 f_6 _ _ _ _ hK9 dX7_buy_9 hP hD hS
noncomputable def p_X7_pluck (f : Mem) (x1 : Int32) (x2 : Int32) (x3 : Int32) (x4 : Int32) : Option (Int32 × Mem) :=
  Option.bind (p_X7_isTrade f x1 x2 x3 x4) <| fun r6 =>
  if r6 = 0 then
    (some ((-1 : Int32), f))
  else
    (Option.bind (p_X7_plucksOn f (nI 0) x1 x2 x3 x4) <| fun (r21, f_21) =>
     if r21 = 0 then
       (some ((-2 : Int32), f_21))
     else
       (Option.bind (p_X7_shareOn f_21 (nI 0) x3 x1) <| fun r31 =>
        some (r31, f_21)))
set_option maxHeartbeats 4000000 in
set_option maxRecDepth 100000 in
theorem c_X7_pluck (l : Launch) (G : Gt) (ad : Nat → Nat) (f : Mem) (x1 : Int32) (x2 : Int32) (x3 : Int32) (x4 : Int32) (r : Int32) (fz : Mem) (hf : p_X7_pluck f x1 x2 x3 x4 = some (r, fz)) (sz : Nat) : Met l yX7_pluck wsX7_pluck ({ frames := 4, cells := 0, slots := 0, locals := 82 }) (Pc0 G sz [.ref (ad 0), .int x1, .int x2, .int x3, .int x4] (wX7 G ad f)) (Qi0 G (va_A (wX7 G ad f) sz) r (wX7 G ad fz)) 0 0 (va_A (wX7 G ad f) sz) := by
  refine metP (Qf := fun A => Qi0 G A r (wX7 G ad fz)) cX7_pluck 5 (some .int) (by decide) rfl (Nat.le_of_ble_eq_true rfl) ?_
  intro p e s m below meth c A ls hC hr hlocks hin hE hA hsz hP hD hS hl
  generalize hargs : ([.ref (ad 0), .int x1, .int x2, .int x3, .int x4] : List Value).toArray = args at hC ⊢
  obtain ⟨hx, hb, hml, hown, hts⟩ := id hC
  have hT : va_K G.1 vwCl (tyL G) s := hE.1
  have hRet : ∀ (r9 : Int32) (f9 : Mem) (H : Heap) (locs : List Loc) (ls : Array Slot) (pc : Nat) (hK9 : (r9, f9) = (r, fz)) (hdg : decode cX7_pluck pc = .ok (.ireturn, 1)), va_P G.1 vwCl (wX7 G ad f9) H → va_D A (wX7 G ad f9) → va_S A s.heap H locs → W p l e ({ frames := 4, cells := 0, slots := 0, locals := 82 }) s m args below meth c H locs 0 0 (MQ below (Qi0 G A r (wX7 G ad fz)) args s 0 0 A) (F0 m pc ls [.int r9]) := by
    intro r9 f9 H locs ls pc hK9 hdg hP hD hS
    cases hK9
    exact W.iret hx hb hr (fun t ht hW => ⟨⟨r, (), rfl, rfl, by rw [ht]; exact hP, hD⟩, hS.F ht⟩) hS.2.2 hdg hlocks
  generalize MQ below (Qi0 G A r (wX7 G ad fz)) args s 0 0 A = Q at hRet ⊢
  have hl : lv_has ls 5 [(0, .ref (ad 0)), (1, .int x1), (2, .int x2), (3, .int x3), (4, .int x4)] := hl
  have hK0 : (r, fz) = (r, fz) := rfl
  obtain ⟨res, hres, hK⟩ : ∃ res, p_X7_pluck f x1 x2 x3 x4 = some res ∧ res = (r, fz) := ⟨_, hf, rfl⟩
  clear hf
  have hf := hres
  clear hres
  unfold p_X7_pluck at hf
  refine lv_aload_n hx hb dX7_pluck_0 rfl (lv_at hl 0 rfl) ?_
  refine lv_iload_n hx hb dX7_pluck_1 rfl (lv_at hl 1 rfl) ?_
  refine lv_iload_n hx hb dX7_pluck_2 rfl (lv_at hl 2 rfl) ?_
  refine lv_iload_n hx hb dX7_pluck_3 rfl (lv_at hl 3 rfl) ?_
  refine lv_iload hx hb dX7_pluck_4 (lv_at hl 4 rfl) ?_
  obtain ⟨r6, hc6, hf⟩ := bd_e hf
  refine cl_z_same (Wd := (wX7 G ad f)) (W' := (wX7 G ad f)) (va_runV (As := [.int x1, .int x2, .int x3, .int x4]) (rest := []) hC (c_X7_isTrade l G ad f x1 x2 x3 x4 r6 hc6 _) (cwV 4 hts gX7_pluck_X7_isTrade rfl rfl rfl (by decide +kernel) ⟨Nat.le_of_ble_eq_true rfl, Nat.le_of_ble_eq_true rfl⟩) ⟨Pc0_blind, va_recv hT hP (q0 := 0) (ci := 7) rfl rfl, fun U hU hW => Pc0_at hE hP hD hU hW⟩ rfl rfl hl.1 rfl (lv_room (Nat.le_of_ble_eq_true rfl)) dX7_pluck_6 ⟨Nat.zero_le _, Nat.zero_le _⟩) hS hA hD (fun H locs hn6 hP hD hS => ?_)
  refine lv_if_ne (tgt := 14) hx hb dX7_pluck_9 (by decide) (fun hc => ?_) (fun hc => ?_)
  · have hf := if_f hf hc
    refine lv_aload_n hx hb dX7_pluck_14 rfl (lv_at hl 0 rfl) ?_
    refine lv_iconst (v := (nI 0)) hx hb dX7_pluck_15 (ic_0) ?_
    refine lv_iload_n hx hb dX7_pluck_16 rfl (lv_at hl 1 rfl) ?_
    refine lv_iload_n hx hb dX7_pluck_17 rfl (lv_at hl 2 rfl) ?_
    refine lv_iload_n hx hb dX7_pluck_18 rfl (lv_at hl 3 rfl) ?_
    refine lv_iload hx hb dX7_pluck_19 (lv_at hl 4 rfl) ?_
    obtain ⟨⟨r21, f_21⟩, hc21, hf⟩ := bd_e hf
    try dsimp only at hf
    refine cl_z_same (Wd := (wX7 G ad f)) (W' := (wX7 G ad f_21)) (va_runV (As := [.int (nI 0), .int x1, .int x2, .int x3, .int x4]) (rest := []) hC (c_X7_plucksOn l G ad f (nI 0) x1 x2 x3 x4 r21 f_21 hc21 _) (cwV 5 hts gX7_pluck_X7_plucksOn rfl rfl rfl (by decide +kernel) ⟨Nat.le_of_ble_eq_true rfl, Nat.le_of_ble_eq_true rfl⟩) ⟨Pc0_blind, va_recv hT hP (q0 := 0) (ci := 7) rfl rfl, fun U hU hW => Pc0_at hE hP hD hU hW⟩ rfl rfl hl.1 rfl (lv_room (Nat.le_of_ble_eq_true rfl)) dX7_pluck_21 ⟨Nat.zero_le _, Nat.zero_le _⟩) hS hA hD (fun H locs hn21 hP hD hS => ?_)
    refine lv_if_eq (tgt := 37) hx hb dX7_pluck_24 (by decide) (fun hc => ?_) (fun hc => ?_)
    · have hf := if_t hf hc
      refine lv_bipush (v := (-2 : Int32)) hx hb dX7_pluck_37 (bi_m2) ?_
      have hK9 := K0_of hf hK
      exact hRet (-2 : Int32) f_21 _ _ _ _ hK9 dX7_pluck_39 hP hD hS
    · have hf := if_f hf hc
      refine lv_aload_n hx hb dX7_pluck_27 rfl (lv_at hl 0 rfl) ?_
      refine lv_iconst (v := (nI 0)) hx hb dX7_pluck_28 (ic_0) ?_
      refine lv_iload_n hx hb dX7_pluck_29 rfl (lv_at hl 3 rfl) ?_
      refine lv_iload_n hx hb dX7_pluck_30 rfl (lv_at hl 1 rfl) ?_
      obtain ⟨r31, hc31, hf⟩ := bd_e hf
      refine cl_i_same (Wd := (wX7 G ad f_21)) (W' := (wX7 G ad f_21)) (va_runV (As := [.int (nI 0), .int x3, .int x1]) (rest := []) hC (c_X7_shareOn l G ad f_21 (nI 0) x3 x1 r31 hc31 _) (cwV 3 hts gX7_pluck_X7_shareOn rfl rfl rfl (by decide +kernel) ⟨Nat.le_of_ble_eq_true rfl, Nat.le_of_ble_eq_true rfl⟩) ⟨Pc0_blind, va_recv hT hP (q0 := 0) (ci := 7) rfl rfl, fun U hU hW => Pc0_at hE hP hD hU hW⟩ rfl rfl hl.1 rfl (lv_room (Nat.le_of_ble_eq_true rfl)) dX7_pluck_31 ⟨Nat.zero_le _, Nat.zero_le _⟩) hS hA hD (fun H locs hP hD hS => ?_)
      refine lv_goto (tgt := 39) hx hb dX7_pluck_34 (by decide) ?_
      have hK9 := K0_of hf hK
      exact hRet r31 f_21 _ _ _ _ hK9 dX7_pluck_39 hP hD hS
  · have hf := if_t hf hc
    refine lv_iconst (v := (-1 : Int32)) hx hb dX7_pluck_12 (ic_m1) ?_
    have hK9 := K0_of hf hK
    exact hRet (-1 : Int32) f _ _ _ _ hK9 dX7_pluck_13 hP hD hS
noncomputable def p_X7_weeks_L36 (x1 : Int32) (z : Int32 × Int32 × Mem) : Option ((Int32 × Int32 × Mem) ⊕ (Int32 × Mem)) :=
  match z with
  | (x2, x3, f_) =>
    if x1 ≤ x3 then
      (some (Sum.inr (x2, f_)))
    else
      (Option.bind (p_X7_weekOn f_ (nI 0) (nI 1)) <| fun (r45, f_45) =>
       some (Sum.inl ((x2 + r45), (x3 + nI 1), f_45)))
noncomputable def p_X7_weeks (f : Mem) (x1 : Int32) : Option (Int32 × Mem) :=
  Option.bind (p_X7_in ((x1).toInt64) (lN 0) (30 : Int64)) <| fun r6 =>
  if r6 = 0 then
    (some ((-1 : Int32), f))
  else
    (gd (inb (nI 34) 360) <|
     if ((f 1 (nI 34).toNatClampNeg) + x1) ≤ (nI 999) then
       (Option.bind (lp (p_X7_weeks_L36 x1) ((nI 0), (nI 0), f)) <| fun (y2_36, f_36) =>
        some (y2_36, f_36))
     else
       (some ((-3 : Int32), f)))
set_option maxHeartbeats 4000000 in
set_option maxRecDepth 100000 in
theorem c_X7_weeks (l : Launch) (G : Gt) (ad : Nat → Nat) (f : Mem) (x1 : Int32) (r : Int32) (fz : Mem) (hf : p_X7_weeks f x1 = some (r, fz)) (sz : Nat) : Met l yX7_weeks wsX7_weeks ({ frames := 5, cells := 0, slots := 0, locals := 108 }) (Pc0 G sz [.ref (ad 0), .int x1] (wX7 G ad f)) (Qi0 G (va_A (wX7 G ad f) sz) r (wX7 G ad fz)) 0 0 (va_A (wX7 G ad f) sz) := by
  refine metP (Qf := fun A => Qi0 G A r (wX7 G ad fz)) cX7_weeks 4 (some .int) (by decide) rfl (Nat.le_of_ble_eq_true rfl) ?_
  intro p e s m below meth c A ls hC hr hlocks hin hE hA hsz hP hD hS hl
  generalize hargs : ([.ref (ad 0), .int x1] : List Value).toArray = args at hC ⊢
  obtain ⟨hx, hb, hml, hown, hts⟩ := id hC
  have hT : va_K G.1 vwCl (tyL G) s := hE.1
  have hRet : ∀ (r9 : Int32) (f9 : Mem) (H : Heap) (locs : List Loc) (ls : Array Slot) (pc : Nat) (hK9 : (r9, f9) = (r, fz)) (hdg : decode cX7_weeks pc = .ok (.ireturn, 1)), va_P G.1 vwCl (wX7 G ad f9) H → va_D A (wX7 G ad f9) → va_S A s.heap H locs → W p l e ({ frames := 5, cells := 0, slots := 0, locals := 108 }) s m args below meth c H locs 0 0 (MQ below (Qi0 G A r (wX7 G ad fz)) args s 0 0 A) (F0 m pc ls [.int r9]) := by
    intro r9 f9 H locs ls pc hK9 hdg hP hD hS
    cases hK9
    exact W.iret hx hb hr (fun t ht hW => ⟨⟨r, (), rfl, rfl, by rw [ht]; exact hP, hD⟩, hS.F ht⟩) hS.2.2 hdg hlocks
  generalize MQ below (Qi0 G A r (wX7 G ad fz)) args s 0 0 A = Q at hRet ⊢
  have lk7 := hts (.fieldLink RX7 7 "FeatherSharesModel" "state" "[I") (by decide +kernel)
  have inX7 : ∀ w ∈ u_ws RX7 TX7 34, w ∈ wsX7_weeks := by decide +kernel
  have hl : lv_has ls 4 [(0, .ref (ad 0)), (1, .int x1)] := hl
  have hK0 : (r, fz) = (r, fz) := rfl
  obtain ⟨res, hres, hK⟩ : ∃ res, p_X7_weeks f x1 = some res ∧ res = (r, fz) := ⟨_, hf, rfl⟩
  clear hf
  have hf := hres
  clear hres
  unfold p_X7_weeks at hf
  refine lv_iload_n hx hb dX7_weeks_0 rfl (lv_at hl 1 rfl) ?_
  refine lv_i2l (v := ((x1).toInt64)) hx hb dX7_weeks_1 rfl ?_
  refine lv_lconst (v := (lN 0)) hx hb dX7_weeks_2 rfl ?_
  refine W.ldc2 (v := (30 : Int64)) hx hb hown (hts (.constantLong RX7 199 (30 : Int64)) (by decide +kernel)) rfl dX7_weeks_3 ?_
  refine W.eq (g2 := F0 m 6 ls [.long (30 : Int64), .long (lN 0), .long ((x1).toInt64)]) rfl ?_
  obtain ⟨r6, hc6, hf⟩ := bd_e hf
  refine cl_z_ro (Wd := (wX7 G ad f)) (Wc := ([] : va_W)) [] rfl (va_runS (As := [.long ((x1).toInt64), .long (lN 0), .long (30 : Int64)]) (rest := []) hC (c_X7_in l G ((x1).toInt64) (lN 0) (30 : Int64) r6 hc6 _) (va_cwS 3 hts gX7_weeks_X7_in rfl rfl rfl (by decide +kernel) ⟨Nat.le_of_ble_eq_true rfl, Nat.le_of_ble_eq_true rfl⟩) ⟨Pc0_blind, fun U hU hW => Pc0_at (Wd := ([] : va_W)) hE (hP.subm [] rfl) (hD.sub [] (by decide) rfl) hU hW⟩ rfl rfl hl.1 rfl (lv_room (Nat.le_of_ble_eq_true rfl)) dX7_weeks_6 ⟨Nat.zero_le _, Nat.zero_le _⟩) hS hA hP hD (fun H locs hn6 hP hD hS => ?_)
  refine lv_if_ne (tgt := 14) hx hb dX7_weeks_9 (by decide) (fun hc => ?_) (fun hc => ?_)
  · have hf := if_f hf hc
    refine lv_aload_n hx hb dX7_weeks_14 rfl (lv_at hl 0 rfl) ?_
    refine va_get (C := RX7) (T := TX7) (N := 34) (ci := 7) (v := .ref (ad 1)) hx hb hts inX7 hown hT hP 0 rfl rfl 0 (Nat.le_of_ble_eq_true rfl) lk7 (fun _ h => h) rfl dX7_weeks_15 ?_
    refine lv_bipush (v := (nI 34)) hx hb dX7_weeks_18 (bi_34) ?_
    obtain ⟨hg, hf⟩ := gd_e hf
    refine va_iald (f := f 1) hx hb hT hP 1 0 rfl rfl (inb_e hg) dX7_weeks_20 ?_
    refine lv_iload_n hx hb dX7_weeks_21 rfl (lv_at hl 1 rfl) ?_
    refine lv_iadd hx hb dX7_weeks_22 ?_
    refine lv_sipush (v := (nI 999)) hx hb dX7_weeks_23 (si_999) ?_
    refine lv_icmp_le (tgt := 32) hx hb dX7_weeks_26 (by decide) (fun hc => ?_) (fun hc => ?_)
    · have hf := if_t hf hc
      refine lv_iconst (v := (nI 0)) hx hb dX7_weeks_32 (ic_0) ?_
      refine lv_istore_n (lv' := [(2, .int (nI 0)), (0, .ref (ad 0)), (1, .int x1)]) hx hb dX7_weeks_33 rfl hl (by decide) rfl (fun ls hl => ?_)
      refine lv_iconst (v := (nI 0)) hx hb dX7_weeks_34 (ic_0) ?_
      refine lv_istore_n (lv' := [(3, .int (nI 0)), (2, .int (nI 0)), (0, .ref (ad 0)), (1, .int x1)]) hx hb dX7_weeks_35 rfl hl (by decide) rfl (fun ls hl => ?_)
      obtain ⟨⟨y2_36, f_36⟩, hlp, hf⟩ := bd_e hf
      refine lp_W1 (p_X7_weeks_L36 x1) (fun z => match z with | (x2, x3, f_) => ∀ (H : Heap) (locs : List Loc) (ls : Array Slot), va_P G.1 vwCl (wX7 G ad f_) H → va_D A (wX7 G ad f_) → va_S A s.heap H locs → lv_has ls 4 [(0, .ref (ad 0)), (1, .int x1), (2, .int x2), (3, .int x3)] → W p l e ({ frames := 5, cells := 0, slots := 0, locals := 108 }) s m args below meth c H locs 0 0 Q (F0 m 36 ls [])) (fun z => match z with | (y2_36, f_36) => ∀ (H : Heap) (locs : List Loc) (ls : Array Slot), va_P G.1 vwCl (wX7 G ad f_36) H → va_D A (wX7 G ad f_36) → va_S A s.heap H locs → lv_has ls 4 [(2, .int y2_36)] → W p l e ({ frames := 5, cells := 0, slots := 0, locals := 108 }) s m args below meth c H locs 0 0 Q (F0 m 56 ls [])) ?_ hlp ?_ _ _ _ hP hD hS (lv_sub hl [2, 3, 1, 0] rfl)
      · clear hlp hf hK hP hD hS hl
        intro K36 hW36 hX36 
        rintro ⟨x2, x3, f_⟩ res hf hK H locs ls hP hD hS hl
        unfold p_X7_weeks_L36 at hf
        dsimp only at hf
        refine lv_iload_n hx hb dX7_weeks_36 rfl (lv_at hl 3 rfl) ?_
        refine lv_iload_n hx hb dX7_weeks_37 rfl (lv_at hl 1 rfl) ?_
        refine lv_icmp_ge (tgt := 56) hx hb dX7_weeks_38 (by decide) (fun hc => ?_) (fun hc => ?_)
        · have hf := if_t hf hc
          have hK9 := K_of hf hK
          have hK9 := hX36 _ hK9
          exact hK9 _ _ _ hP hD hS (lv_sub hl [2] rfl)
        · have hf := if_f hf hc
          refine lv_iload_n hx hb dX7_weeks_41 rfl (lv_at hl 2 rfl) ?_
          refine lv_aload_n hx hb dX7_weeks_42 rfl (lv_at hl 0 rfl) ?_
          refine lv_iconst (v := (nI 0)) hx hb dX7_weeks_43 (ic_0) ?_
          refine lv_iconst (v := (nI 1)) hx hb dX7_weeks_44 (ic_1) ?_
          obtain ⟨⟨r45, f_45⟩, hc45, hf⟩ := bd_e hf
          try dsimp only at hf
          refine cl_i_same (Wd := (wX7 G ad f_)) (W' := (wX7 G ad f_45)) (va_runV (As := [.int (nI 0), .int (nI 1)]) (rest := [.int x2]) hC (c_X7_weekOn l G ad f_ (nI 0) (nI 1) r45 f_45 hc45 _) (cwV 2 hts gX7_weeks_X7_weekOn rfl rfl rfl (by decide +kernel) ⟨Nat.le_of_ble_eq_true rfl, Nat.le_of_ble_eq_true rfl⟩) ⟨Pc0_blind, va_recv hT hP (q0 := 0) (ci := 7) rfl rfl, fun U hU hW => Pc0_at hE hP hD hU hW⟩ rfl rfl hl.1 rfl (lv_room (Nat.le_of_ble_eq_true rfl)) dX7_weeks_45 ⟨Nat.zero_le _, Nat.zero_le _⟩) hS hA hD (fun H locs hP hD hS => ?_)
          refine lv_iadd hx hb dX7_weeks_48 ?_
          refine lv_istore_n (lv' := [(2, .int (x2 + r45)), (0, .ref (ad 0)), (1, .int x1), (3, .int x3)]) hx hb dX7_weeks_49 rfl hl (by decide) rfl (fun ls hl => ?_)
          refine lv_iinc (v := (x3 + nI 1)) (lv' := [(3, .int (x3 + nI 1)), (2, .int (x2 + r45)), (0, .ref (ad 0)), (1, .int x1)]) hx hb dX7_weeks_50 hl (k := 3) rfl (ii_x 1 _) (by decide) rfl (fun ls hl => ?_)
          refine lv_goto (tgt := 36) hx hb dX7_weeks_53 (by decide) ?_
          have hK9 := K_of hf hK
          have hK9 := hW36 _ hK9
          exact hK9 _ _ _ hP hD hS (lv_sub hl [2, 3, 1, 0] rfl)
      · try dsimp only at hf
        show ∀ (H : Heap) (locs : List Loc) (ls : Array Slot), va_P G.1 vwCl (wX7 G ad f_36) H → va_D A (wX7 G ad f_36) → va_S A s.heap H locs → lv_has ls 4 [(2, .int y2_36)] → W p l e ({ frames := 5, cells := 0, slots := 0, locals := 108 }) s m args below meth c H locs 0 0 Q (F0 m 56 ls [])
        intro H locs ls hP hD hS hl
        refine lv_iload_n hx hb dX7_weeks_56 rfl (lv_at hl 0 rfl) ?_
        have hK9 := K0_of hf hK
        exact hRet y2_36 f_36 _ _ _ _ hK9 dX7_weeks_57 hP hD hS
    · have hf := if_f hf hc
      refine lv_bipush (v := (-3 : Int32)) hx hb dX7_weeks_29 (bi_m3) ?_
      have hK9 := K0_of hf hK
      exact hRet (-3 : Int32) f _ _ _ _ hK9 dX7_weeks_31 hP hD hS
  · have hf := if_t hf hc
    refine lv_iconst (v := (-1 : Int32)) hx hb dX7_weeks_12 (ic_m1) ?_
    have hK9 := K0_of hf hK
    exact hRet (-1 : Int32) f _ _ _ _ hK9 dX7_weeks_13 hP hD hS
noncomputable def p_X7_copies_L2 (x1 : Int32) (x2 : Int32) (z : Int32 × Mem) : Option ((Int32 × Mem) ⊕ Mem) :=
  match z with
  | (x3, f_) =>
    if (nI 60) ≤ x3 then
      (some (Sum.inr f_))
    else
      (gd (inb (x1 + x3) 360) <|
       gd (inb (x2 + x3) 360) <|
       bnd (upd (f_ 1) (x2 + x3).toNatClampNeg (f_ 1 (x1 + x3).toNatClampNeg)) <| fun g23 =>
       some (Sum.inl ((x3 + nI 1), (mrow 1 (g23) f_))))
noncomputable def p_X7_copies (f : Mem) (x1 : Int32) (x2 : Int32) : Option (Mem) :=
  Option.bind (lp (p_X7_copies_L2 x1 x2) ((nI 0), f)) <| fun f_2 =>
  some f_2
set_option maxHeartbeats 4000000 in
set_option maxRecDepth 100000 in
theorem c_X7_copies (l : Launch) (G : Gt) (ad : Nat → Nat) (f : Mem) (x1 : Int32) (x2 : Int32) (fz : Mem) (hf : p_X7_copies f x1 x2 = some fz) (sz : Nat) : Met l yX7_copies wsX7_copies ({ frames := 1, cells := 0, slots := 0, locals := 12 }) (Pc0 G sz [.ref (ad 0), .int x1, .int x2] (wX7 G ad f)) (Qv0 G (va_A (wX7 G ad f) sz) (wX7 G ad fz)) 0 0 (va_A (wX7 G ad f) sz) := by
  refine metP (Qf := fun A => Qv0 G A (wX7 G ad fz)) cX7_copies 4 (none) (by decide) rfl (Nat.le_of_ble_eq_true rfl) ?_
  intro p e s m below meth c A ls hC hr hlocks hin hE hA hsz hP hD hS hl
  generalize hargs : ([.ref (ad 0), .int x1, .int x2] : List Value).toArray = args at hC ⊢
  obtain ⟨hx, hb, hml, hown, hts⟩ := id hC
  have hT : va_K G.1 vwCl (tyL G) s := hE.1
  have hRet : ∀ (f9 : Mem) (H : Heap) (locs : List Loc) (ls : Array Slot) (pc : Nat) (hK9 : f9 = fz) (hdg : decode cX7_copies pc = .ok (.return_, 1)), va_P G.1 vwCl (wX7 G ad f9) H → va_D A (wX7 G ad f9) → va_S A s.heap H locs → W p l e ({ frames := 1, cells := 0, slots := 0, locals := 12 }) s m args below meth c H locs 0 0 (MQ below (Qv0 G A (wX7 G ad fz)) args s 0 0 A) (F0 m pc ls []) := by
    intro f9 H locs ls pc hK9 hdg hP hD hS
    cases hK9
    exact W.vret hx hb hr (fun t ht hW => ⟨⟨(), rfl, trivial, by rw [ht]; exact hP, hD⟩, hS.F ht⟩) hS.2.2 hdg hlocks
  generalize MQ below (Qv0 G A (wX7 G ad fz)) args s 0 0 A = Q at hRet ⊢
  have lk7 := hts (.fieldLink RX7 7 "FeatherSharesModel" "state" "[I") (by decide +kernel)
  have inX7 : ∀ w ∈ u_ws RX7 TX7 34, w ∈ wsX7_copies := by decide +kernel
  have hl : lv_has ls 4 [(0, .ref (ad 0)), (1, .int x1), (2, .int x2)] := hl
  have hK0 : fz = fz := rfl
  obtain ⟨res, hres, hK⟩ : ∃ res, p_X7_copies f x1 x2 = some res ∧ res = fz := ⟨_, hf, rfl⟩
  clear hf
  have hf := hres
  clear hres
  unfold p_X7_copies at hf
  refine lv_iconst (v := (nI 0)) hx hb dX7_copies_0 (ic_0) ?_
  refine lv_istore_n (lv' := [(3, .int (nI 0)), (0, .ref (ad 0)), (1, .int x1), (2, .int x2)]) hx hb dX7_copies_1 rfl hl (by decide) rfl (fun ls hl => ?_)
  obtain ⟨f_2, hlp, hf⟩ := bd_e hf
  refine lp_W1 (p_X7_copies_L2 x1 x2) (fun z => match z with | (x3, f_) => ∀ (H : Heap) (locs : List Loc) (ls : Array Slot), va_P G.1 vwCl (wX7 G ad f_) H → va_D A (wX7 G ad f_) → va_S A s.heap H locs → lv_has ls 4 [(0, .ref (ad 0)), (1, .int x1), (2, .int x2), (3, .int x3)] → W p l e ({ frames := 1, cells := 0, slots := 0, locals := 12 }) s m args below meth c H locs 0 0 Q (F0 m 2 ls [])) (fun (f_2 : Mem) => ∀ (H : Heap) (locs : List Loc) (ls : Array Slot), va_P G.1 vwCl (wX7 G ad f_2) H → va_D A (wX7 G ad f_2) → va_S A s.heap H locs → lv_has ls 4 [] → W p l e ({ frames := 1, cells := 0, slots := 0, locals := 12 }) s m args below meth c H locs 0 0 Q (F0 m 30 ls [])) ?_ hlp ?_ _ _ _ hP hD hS (lv_sub hl [1, 2, 3, 0] rfl)
  · clear hlp hf hK hP hD hS hl
    intro K2 hW2 hX2 
    rintro ⟨x3, f_⟩ res hf hK H locs ls hP hD hS hl
    unfold p_X7_copies_L2 at hf
    dsimp only at hf
    refine lv_iload_n hx hb dX7_copies_2 rfl (lv_at hl 3 rfl) ?_
    refine lv_bipush (v := (nI 60)) hx hb dX7_copies_3 (bi_60) ?_
    refine lv_icmp_ge (tgt := 30) hx hb dX7_copies_5 (by decide) (fun hc => ?_) (fun hc => ?_)
    · have hf := if_t hf hc
      have hK9 := K_of hf hK
      have hK9 := hX2 _ hK9
      exact hK9 _ _ _ hP hD hS (lv_sub hl [] rfl)
    · have hf := if_f hf hc
      refine lv_aload_n hx hb dX7_copies_8 rfl (lv_at hl 0 rfl) ?_
      refine va_get (C := RX7) (T := TX7) (N := 34) (ci := 7) (v := .ref (ad 1)) hx hb hts inX7 hown hT hP 0 rfl rfl 0 (Nat.le_of_ble_eq_true rfl) lk7 (fun _ h => h) rfl dX7_copies_9 ?_
      refine lv_iload_n hx hb dX7_copies_12 rfl (lv_at hl 2 rfl) ?_
      refine lv_iload_n hx hb dX7_copies_13 rfl (lv_at hl 3 rfl) ?_
      refine lv_iadd hx hb dX7_copies_14 ?_
      refine lv_aload_n hx hb dX7_copies_15 rfl (lv_at hl 0 rfl) ?_
      refine va_get (C := RX7) (T := TX7) (N := 34) (ci := 7) (v := .ref (ad 1)) hx hb hts inX7 hown hT hP 0 rfl rfl 0 (Nat.le_of_ble_eq_true rfl) lk7 (fun _ h => h) rfl dX7_copies_16 ?_
      refine lv_iload_n hx hb dX7_copies_19 rfl (lv_at hl 1 rfl) ?_
      refine lv_iload_n hx hb dX7_copies_20 rfl (lv_at hl 3 rfl) ?_
      refine lv_iadd hx hb dX7_copies_21 ?_
      obtain ⟨hg, hf⟩ := gd_e hf
      refine va_iald (f := f_ 1) hx hb hT hP 1 0 rfl rfl (inb_e hg) dX7_copies_22 ?_
      obtain ⟨hg, hf⟩ := gd_e hf
      obtain ⟨g23, eg23, hf⟩ := bnd_e hf
      refine va_iast (f := f_ 1) hx hb hT hP hD hS 1 0 rfl rfl (inb_e hg) dX7_copies_23 (fun H locs hP hD hS => ?_)
      rw [← eg23] at hP hD
      have hP : va_P G.1 vwCl (wX7 G ad (mrow 1 (g23) f_)) H := hP
      have hD : va_D A (wX7 G ad (mrow 1 (g23) f_)) := hD
      refine lv_iinc (v := (x3 + nI 1)) (lv' := [(3, .int (x3 + nI 1)), (0, .ref (ad 0)), (1, .int x1), (2, .int x2)]) hx hb dX7_copies_24 hl (k := 3) rfl (ii_x 1 _) (by decide) rfl (fun ls hl => ?_)
      refine lv_goto (tgt := 2) hx hb dX7_copies_27 (by decide) ?_
      have hK9 := K_of hf hK
      have hK9 := hW2 _ hK9
      exact hK9 _ _ _ hP hD hS (lv_sub hl [1, 2, 3, 0] rfl)
  · try dsimp only at hf
    show ∀ (H : Heap) (locs : List Loc) (ls : Array Slot), va_P G.1 vwCl (wX7 G ad f_2) H → va_D A (wX7 G ad f_2) → va_S A s.heap H locs → lv_has ls 4 [] → W p l e ({ frames := 1, cells := 0, slots := 0, locals := 12 }) s m args below meth c H locs 0 0 Q (F0 m 30 ls [])
    intro H locs ls hP hD hS hl
    have hK9 := K0_of hf hK
    exact hRet f_2 _ _ _ _ hK9 dX7_copies_30 hP hD hS
noncomputable def p_X7_planGoes_B154 (f_ : Mem) (x1 : Int32) (x2 : Int32) (s0 : Int32) : Option ((Int32 × Mem) ⊕ Mem) :=
  some (Sum.inl ((x2 + nI 1), (mset 0 14 s0 f_)))
noncomputable def p_X7_planGoes_L26 (x1 : Int32) (z : Int32 × Mem) : Option ((Int32 × Mem) ⊕ Mem) :=
  match z with
  | (x2, f_) =>
    gd (inb (nI 59) 360) <|
    if (f_ 1 (nI 59).toNatClampNeg) ≤ x2 then
      (some (Sum.inr f_))
    else
      (if x2 = x1 then
         (some (Sum.inl ((x2 + nI 1), f_)))
       else
         (gd (inb ((nI 35) + ((nI 4) * x2)) 360) <|
          gd (inb (((nI 35) + ((nI 4) * x2)) + (nI 1)) 360) <|
          gd (inb (((nI 35) + ((nI 4) * x2)) + (nI 2)) 360) <|
          gd (inb (((nI 35) + ((nI 4) * x2)) + (nI 3)) 360) <|
          Option.bind (p_X7_buysOn f_ (nI 240) (f_ 1 ((nI 35) + ((nI 4) * x2)).toNatClampNeg) (f_ 1 (((nI 35) + ((nI 4) * x2)) + (nI 1)).toNatClampNeg) (f_ 1 (((nI 35) + ((nI 4) * x2)) + (nI 2)).toNatClampNeg) (f_ 1 (((nI 35) + ((nI 4) * x2)) + (nI 3)).toNatClampNeg)) <| fun (r83, f_83) =>
          if r83 = 0 then
            (if (f_83 0 14) = (-4 : Int32) then
               (p_X7_planGoes_B154 f_83 x1 x2 x2)
             else
               (p_X7_planGoes_B154 f_83 x1 x2 (f_83 0 14)))
          else
            (gd (inb (((nI 35) + ((nI 4) * x2)) + (nI 3)) 360) <|
             gd (inb (((nI 35) + ((nI 4) * x2)) + (nI 2)) 360) <|
             gd (inb ((nI 6) + (f_83 1 (((nI 35) + ((nI 4) * x2)) + (nI 2)).toNatClampNeg)) 360) <|
             some (Sum.inl ((x2 + nI 1), (mset 0 15 ((f_83 0 15) + ((f_83 1 (((nI 35) + ((nI 4) * x2)) + (nI 3)).toNatClampNeg) * (f_83 1 ((nI 6) + (f_83 1 (((nI 35) + ((nI 4) * x2)) + (nI 2)).toNatClampNeg)).toNatClampNeg))) (mset 0 13 ((f_83 0 13) + (nI 1)) f_83)))))))
noncomputable def p_X7_planGoes (f : Mem) (x1 : Int32) : Option (Mem) :=
  Option.bind (p_X7_copies f (nI 0) (nI 240)) <| fun f_5 =>
  Option.bind (lp (p_X7_planGoes_L26 x1) ((nI 0), (mset 0 15 (nI 0) (mset 0 14 (-4 : Int32) (mset 0 13 (nI 0) f_5))))) <| fun f_26 =>
  some f_26
set_option maxHeartbeats 4000000 in
set_option maxRecDepth 100000 in
theorem c_X7_planGoes (l : Launch) (G : Gt) (ad : Nat → Nat) (f : Mem) (x1 : Int32) (fz : Mem) (hf : p_X7_planGoes f x1 = some fz) (sz : Nat) : Met l yX7_planGoes wsX7_planGoes ({ frames := 4, cells := 0, slots := 0, locals := 88 }) (Pc0 G sz [.ref (ad 0), .int x1] (wX7 G ad f)) (Qv0 G (va_A (wX7 G ad f) sz) (wX7 G ad fz)) 0 0 (va_A (wX7 G ad f) sz) := by
  refine metP (Qf := fun A => Qv0 G A (wX7 G ad fz)) cX7_planGoes 4 (none) (by decide) rfl (Nat.le_of_ble_eq_true rfl) ?_
  intro p e s m below meth c A ls hC hr hlocks hin hE hA hsz hP hD hS hl
  generalize hargs : ([.ref (ad 0), .int x1] : List Value).toArray = args at hC ⊢
  obtain ⟨hx, hb, hml, hown, hts⟩ := id hC
  have hT : va_K G.1 vwCl (tyL G) s := hE.1
  have hRet : ∀ (f9 : Mem) (H : Heap) (locs : List Loc) (ls : Array Slot) (pc : Nat) (hK9 : f9 = fz) (hdg : decode cX7_planGoes pc = .ok (.return_, 1)), va_P G.1 vwCl (wX7 G ad f9) H → va_D A (wX7 G ad f9) → va_S A s.heap H locs → W p l e ({ frames := 4, cells := 0, slots := 0, locals := 88 }) s m args below meth c H locs 0 0 (MQ below (Qv0 G A (wX7 G ad fz)) args s 0 0 A) (F0 m pc ls []) := by
    intro f9 H locs ls pc hK9 hdg hP hD hS
    cases hK9
    exact W.vret hx hb hr (fun t ht hW => ⟨⟨(), rfl, trivial, by rw [ht]; exact hP, hD⟩, hS.F ht⟩) hS.2.2 hdg hlocks
  generalize MQ below (Qv0 G A (wX7 G ad fz)) args s 0 0 A = Q at hRet ⊢
  have lk208 := hts (.fieldLink RX7 208 "FeatherSharesModel" "cameMany" "I") (by decide +kernel)
  have inX7 : ∀ w ∈ u_ws RX7 TX7 34, w ∈ wsX7_planGoes := by decide +kernel
  have lk211 := hts (.fieldLink RX7 211 "FeatherSharesModel" "firstNot" "I") (by decide +kernel)
  have lk214 := hts (.fieldLink RX7 214 "FeatherSharesModel" "changed" "I") (by decide +kernel)
  have lk7 := hts (.fieldLink RX7 7 "FeatherSharesModel" "state" "[I") (by decide +kernel)
  have hl : lv_has ls 4 [(0, .ref (ad 0)), (1, .int x1)] := hl
  have hK0 : fz = fz := rfl
  obtain ⟨res, hres, hK⟩ : ∃ res, p_X7_planGoes f x1 = some res ∧ res = fz := ⟨_, hf, rfl⟩
  clear hf
  have hf := hres
  clear hres
  unfold p_X7_planGoes at hf
  refine lv_aload_n hx hb dX7_planGoes_0 rfl (lv_at hl 0 rfl) ?_
  refine lv_iconst (v := (nI 0)) hx hb dX7_planGoes_1 (ic_0) ?_
  refine lv_sipush (v := (nI 240)) hx hb dX7_planGoes_2 (si_240) ?_
  obtain ⟨f_5, hc5, hf⟩ := bd_e hf
  refine cl_v_same (Wd := (wX7 G ad f)) (W' := (wX7 G ad f_5)) (va_runV (As := [.int (nI 0), .int (nI 240)]) (rest := []) hC (c_X7_copies l G ad f (nI 0) (nI 240) f_5 hc5 _) (cwV 2 hts gX7_planGoes_X7_copies rfl rfl rfl (by decide +kernel) ⟨Nat.le_of_ble_eq_true rfl, Nat.le_of_ble_eq_true rfl⟩) ⟨Pc0_blind, va_recv hT hP (q0 := 0) (ci := 7) rfl rfl, fun U hU hW => Pc0_at hE hP hD hU hW⟩ rfl rfl hl.1 rfl (lv_room (Nat.le_of_ble_eq_true rfl)) dX7_planGoes_5 ⟨Nat.zero_le _, Nat.zero_le _⟩) hS hA hD (fun H locs hP hD hS => ?_)
  refine lv_aload_n hx hb dX7_planGoes_8 rfl (lv_at hl 0 rfl) ?_
  refine lv_iconst (v := (nI 0)) hx hb dX7_planGoes_9 (ic_0) ?_
  refine va_put (C := RX7) (T := TX7) (N := 34) (ci := 7) (ty := .int) (v := .int (nI 0)) hx hb hts inX7 tyX7 tyX7_ok nmX7 hown hT hP hD hS 0 rfl rfl 18 (Nat.le_of_ble_eq_true rfl) lk208 (fun _ h => h) rfl (by decide +kernel) rfl rfl (Nat.le_of_ble_eq_true rfl) dX7_planGoes_10 (fun H locs hP hD hS => ?_)
  have hP : va_P G.1 vwCl (wX7 G ad (mset 0 13 (nI 0) f_5)) H := hP
  have hD : va_D A (wX7 G ad (mset 0 13 (nI 0) f_5)) := hD
  refine lv_aload_n hx hb dX7_planGoes_13 rfl (lv_at hl 0 rfl) ?_
  refine lv_bipush (v := (-4 : Int32)) hx hb dX7_planGoes_14 (bi_m4) ?_
  refine va_put (C := RX7) (T := TX7) (N := 34) (ci := 7) (ty := .int) (v := .int (-4 : Int32)) hx hb hts inX7 tyX7 tyX7_ok nmX7 hown hT hP hD hS 0 rfl rfl 19 (Nat.le_of_ble_eq_true rfl) lk211 (fun _ h => h) rfl (by decide +kernel) rfl rfl (Nat.le_of_ble_eq_true rfl) dX7_planGoes_16 (fun H locs hP hD hS => ?_)
  have hP : va_P G.1 vwCl (wX7 G ad (mset 0 14 (-4 : Int32) (mset 0 13 (nI 0) f_5))) H := hP
  have hD : va_D A (wX7 G ad (mset 0 14 (-4 : Int32) (mset 0 13 (nI 0) f_5))) := hD
  refine lv_aload_n hx hb dX7_planGoes_19 rfl (lv_at hl 0 rfl) ?_
  refine lv_iconst (v := (nI 0)) hx hb dX7_planGoes_20 (ic_0) ?_
  refine va_put (C := RX7) (T := TX7) (N := 34) (ci := 7) (ty := .int) (v := .int (nI 0)) hx hb hts inX7 tyX7 tyX7_ok nmX7 hown hT hP hD hS 0 rfl rfl 20 (Nat.le_of_ble_eq_true rfl) lk214 (fun _ h => h) rfl (by decide +kernel) rfl rfl (Nat.le_of_ble_eq_true rfl) dX7_planGoes_21 (fun H locs hP hD hS => ?_)
  have hP : va_P G.1 vwCl (wX7 G ad (mset 0 15 (nI 0) (mset 0 14 (-4 : Int32) (mset 0 13 (nI 0) f_5)))) H := hP
  have hD : va_D A (wX7 G ad (mset 0 15 (nI 0) (mset 0 14 (-4 : Int32) (mset 0 13 (nI 0) f_5)))) := hD
  refine lv_iconst (v := (nI 0)) hx hb dX7_planGoes_24 (ic_0) ?_
  refine lv_istore_n (lv' := [(2, .int (nI 0)), (0, .ref (ad 0)), (1, .int x1)]) hx hb dX7_planGoes_25 rfl hl (by decide) rfl (fun ls hl => ?_)
  obtain ⟨f_26, hlp, hf⟩ := bd_e hf
  refine lp_W1 (p_X7_planGoes_L26 x1) (fun z => match z with | (x2, f_) => ∀ (H : Heap) (locs : List Loc) (ls : Array Slot), va_P G.1 vwCl (wX7 G ad f_) H → va_D A (wX7 G ad f_) → va_S A s.heap H locs → lv_has ls 4 [(0, .ref (ad 0)), (1, .int x1), (2, .int x2)] → W p l e ({ frames := 4, cells := 0, slots := 0, locals := 88 }) s m args below meth c H locs 0 0 Q (F0 m 26 ls [])) (fun (f_26 : Mem) => ∀ (H : Heap) (locs : List Loc) (ls : Array Slot), va_P G.1 vwCl (wX7 G ad f_26) H → va_D A (wX7 G ad f_26) → va_S A s.heap H locs → lv_has ls 4 [] → W p l e ({ frames := 4, cells := 0, slots := 0, locals := 88 }) s m args below meth c H locs 0 0 Q (F0 m 163 ls [])) ?_ hlp ?_ _ _ _ hP hD hS (lv_sub hl [1, 2, 0] rfl)
  · clear hlp hf hK hP hD hS hl
    intro K26 hW26 hX26 
    have hB154 : ∀ (f_ : Mem) (x2 : Int32) (s0 : Int32) (res : (Int32 × Mem) ⊕ Mem) (hf : p_X7_planGoes_B154 f_ x1 x2 s0 = some res) (hK : K26 res), ∀ (H : Heap) (locs : List Loc) (ls : Array Slot), va_P G.1 vwCl (wX7 G ad f_) H → va_D A (wX7 G ad f_) → va_S A s.heap H locs → lv_has ls 4 [(0, .ref (ad 0)), (1, .int x1), (2, .int x2)] → W p l e ({ frames := 4, cells := 0, slots := 0, locals := 88 }) s m args below meth c H locs 0 0 Q (F0 m 154 ls [.int s0, .ref (ad 0)]) := by
      intro f_ x2 s0 res hf hK H locs ls hP hD hS hl
      unfold p_X7_planGoes_B154 at hf
      refine va_put (C := RX7) (T := TX7) (N := 34) (ci := 7) (ty := .int) (v := .int s0) hx hb hts inX7 tyX7 tyX7_ok nmX7 hown hT hP hD hS 0 rfl rfl 19 (Nat.le_of_ble_eq_true rfl) lk211 (fun _ h => h) rfl (by decide +kernel) rfl rfl (Nat.le_of_ble_eq_true rfl) dX7_planGoes_154 (fun H locs hP hD hS => ?_)
      have hP : va_P G.1 vwCl (wX7 G ad (mset 0 14 s0 f_)) H := hP
      have hD : va_D A (wX7 G ad (mset 0 14 s0 f_)) := hD
      refine lv_iinc (v := (x2 + nI 1)) (lv' := [(2, .int (x2 + nI 1)), (0, .ref (ad 0)), (1, .int x1)]) hx hb dX7_planGoes_157 hl (k := 2) rfl (ii_x 1 _) (by decide) rfl (fun ls hl => ?_)
      refine lv_goto (tgt := 26) hx hb dX7_planGoes_160 (by decide) ?_
      have hK9 := K_of hf hK
      have hK9 := hW26 _ hK9
      exact hK9 _ _ _ hP hD hS (lv_sub hl [1, 2, 0] rfl)
    rintro ⟨x2, f_⟩ res hf hK H locs ls hP hD hS hl
    unfold p_X7_planGoes_L26 at hf
    dsimp only at hf
    refine lv_iload_n hx hb dX7_planGoes_26 rfl (lv_at hl 2 rfl) ?_
    refine lv_aload_n hx hb dX7_planGoes_27 rfl (lv_at hl 0 rfl) ?_
    refine va_get (C := RX7) (T := TX7) (N := 34) (ci := 7) (v := .ref (ad 1)) hx hb hts inX7 hown hT hP 0 rfl rfl 0 (Nat.le_of_ble_eq_true rfl) lk7 (fun _ h => h) rfl dX7_planGoes_28 ?_
    refine lv_bipush (v := (nI 59)) hx hb dX7_planGoes_31 (bi_59) ?_
    obtain ⟨hg, hf⟩ := gd_e hf
    refine va_iald (f := f_ 1) hx hb hT hP 1 0 rfl rfl (inb_e hg) dX7_planGoes_33 ?_
    refine lv_icmp_ge (tgt := 163) hx hb dX7_planGoes_34 (by decide) (fun hc => ?_) (fun hc => ?_)
    · have hf := if_t hf hc
      have hK9 := K_of hf hK
      have hK9 := hX26 _ hK9
      exact hK9 _ _ _ hP hD hS (lv_sub hl [] rfl)
    · have hf := if_f hf hc
      refine lv_bipush (v := (nI 35)) hx hb dX7_planGoes_37 (bi_35) ?_
      refine lv_iconst (v := (nI 4)) hx hb dX7_planGoes_39 (ic_4) ?_
      refine lv_iload_n hx hb dX7_planGoes_40 rfl (lv_at hl 2 rfl) ?_
      refine lv_imul hx hb dX7_planGoes_41 ?_
      refine lv_iadd hx hb dX7_planGoes_42 ?_
      refine lv_istore_n (lv' := [(3, .int ((nI 35) + ((nI 4) * x2))), (0, .ref (ad 0)), (1, .int x1), (2, .int x2)]) hx hb dX7_planGoes_43 rfl hl (by decide) rfl (fun ls hl => ?_)
      refine lv_iload_n hx hb dX7_planGoes_44 rfl (lv_at hl 3 rfl) ?_
      refine lv_iload_n hx hb dX7_planGoes_45 rfl (lv_at hl 2 rfl) ?_
      refine lv_icmp_eq (tgt := 157) hx hb dX7_planGoes_46 (by decide) (fun hc => ?_) (fun hc => ?_)
      · have hf := if_t hf hc
        refine lv_iinc (v := (x2 + nI 1)) (lv' := [(2, .int (x2 + nI 1)), (3, .int ((nI 35) + ((nI 4) * x2))), (0, .ref (ad 0)), (1, .int x1)]) hx hb dX7_planGoes_157 hl (k := 3) rfl (ii_x 1 _) (by decide) rfl (fun ls hl => ?_)
        refine lv_goto (tgt := 26) hx hb dX7_planGoes_160 (by decide) ?_
        have hK9 := K_of hf hK
        have hK9 := hW26 _ hK9
        exact hK9 _ _ _ hP hD hS (lv_sub hl [2, 3, 0] rfl)
      · have hf := if_f hf hc
        refine lv_aload_n hx hb dX7_planGoes_49 rfl (lv_at hl 1 rfl) ?_
        refine lv_sipush (v := (nI 240)) hx hb dX7_planGoes_50 (si_240) ?_
        refine lv_aload_n hx hb dX7_planGoes_53 rfl (lv_at hl 1 rfl) ?_
        refine va_get (C := RX7) (T := TX7) (N := 34) (ci := 7) (v := .ref (ad 1)) hx hb hts inX7 hown hT hP 0 rfl rfl 0 (Nat.le_of_ble_eq_true rfl) lk7 (fun _ h => h) rfl dX7_planGoes_54 ?_
        refine lv_iload_n hx hb dX7_planGoes_57 rfl (lv_at hl 0 rfl) ?_
        obtain ⟨hg, hf⟩ := gd_e hf
        refine va_iald (f := f_ 1) hx hb hT hP 1 0 rfl rfl (inb_e hg) dX7_planGoes_58 ?_
        refine lv_aload_n hx hb dX7_planGoes_59 rfl (lv_at hl 1 rfl) ?_
        refine va_get (C := RX7) (T := TX7) (N := 34) (ci := 7) (v := .ref (ad 1)) hx hb hts inX7 hown hT hP 0 rfl rfl 0 (Nat.le_of_ble_eq_true rfl) lk7 (fun _ h => h) rfl dX7_planGoes_60 ?_
        refine lv_iload_n hx hb dX7_planGoes_63 rfl (lv_at hl 0 rfl) ?_
        refine lv_iconst (v := (nI 1)) hx hb dX7_planGoes_64 (ic_1) ?_
        refine lv_iadd hx hb dX7_planGoes_65 ?_
        obtain ⟨hg, hf⟩ := gd_e hf
        refine va_iald (f := f_ 1) hx hb hT hP 1 0 rfl rfl (inb_e hg) dX7_planGoes_66 ?_
        refine lv_aload_n hx hb dX7_planGoes_67 rfl (lv_at hl 1 rfl) ?_
        refine va_get (C := RX7) (T := TX7) (N := 34) (ci := 7) (v := .ref (ad 1)) hx hb hts inX7 hown hT hP 0 rfl rfl 0 (Nat.le_of_ble_eq_true rfl) lk7 (fun _ h => h) rfl dX7_planGoes_68 ?_
        refine lv_iload_n hx hb dX7_planGoes_71 rfl (lv_at hl 0 rfl) ?_
        refine lv_iconst (v := (nI 2)) hx hb dX7_planGoes_72 (ic_2) ?_
        refine lv_iadd hx hb dX7_planGoes_73 ?_
        obtain ⟨hg, hf⟩ := gd_e hf
        refine va_iald (f := f_ 1) hx hb hT hP 1 0 rfl rfl (inb_e hg) dX7_planGoes_74 ?_
        refine lv_aload_n hx hb dX7_planGoes_75 rfl (lv_at hl 1 rfl) ?_
        refine va_get (C := RX7) (T := TX7) (N := 34) (ci := 7) (v := .ref (ad 1)) hx hb hts inX7 hown hT hP 0 rfl rfl 0 (Nat.le_of_ble_eq_true rfl) lk7 (fun _ h => h) rfl dX7_planGoes_76 ?_
        refine lv_iload_n hx hb dX7_planGoes_79 rfl (lv_at hl 0 rfl) ?_
        refine lv_iconst (v := (nI 3)) hx hb dX7_planGoes_80 (ic_3) ?_
        refine lv_iadd hx hb dX7_planGoes_81 ?_
        obtain ⟨hg, hf⟩ := gd_e hf
        refine va_iald (f := f_ 1) hx hb hT hP 1 0 rfl rfl (inb_e hg) dX7_planGoes_82 ?_
        obtain ⟨⟨r83, f_83⟩, hc83, hf⟩ := bd_e hf
        try dsimp only at hf
        refine cl_z_same (Wd := (wX7 G ad f_)) (W' := (wX7 G ad f_83)) (va_runV (As := [.int (nI 240), .int (f_ 1 ((nI 35) + ((nI 4) * x2)).toNatClampNeg), .int (f_ 1 (((nI 35) + ((nI 4) * x2)) + (nI 1)).toNatClampNeg), .int (f_ 1 (((nI 35) + ((nI 4) * x2)) + (nI 2)).toNatClampNeg), .int (f_ 1 (((nI 35) + ((nI 4) * x2)) + (nI 3)).toNatClampNeg)]) (rest := []) hC (c_X7_buysOn l G ad f_ (nI 240) (f_ 1 ((nI 35) + ((nI 4) * x2)).toNatClampNeg) (f_ 1 (((nI 35) + ((nI 4) * x2)) + (nI 1)).toNatClampNeg) (f_ 1 (((nI 35) + ((nI 4) * x2)) + (nI 2)).toNatClampNeg) (f_ 1 (((nI 35) + ((nI 4) * x2)) + (nI 3)).toNatClampNeg) r83 f_83 hc83 _) (cwV 5 hts gX7_planGoes_X7_buysOn rfl rfl rfl (by decide +kernel) ⟨Nat.le_of_ble_eq_true rfl, Nat.le_of_ble_eq_true rfl⟩) ⟨Pc0_blind, va_recv hT hP (q0 := 0) (ci := 7) rfl rfl, fun U hU hW => Pc0_at hE hP hD hU hW⟩ rfl rfl hl.1 rfl (lv_room (Nat.le_of_ble_eq_true rfl)) dX7_planGoes_83 ⟨Nat.zero_le _, Nat.zero_le _⟩) hS hA hD (fun H locs hn83 hP hD hS => ?_)
        refine lv_if_eq (tgt := 136) hx hb dX7_planGoes_86 (by decide) (fun hc => ?_) (fun hc => ?_)
        · have hf := if_t hf hc
          refine lv_aload_n hx hb dX7_planGoes_136 rfl (lv_at hl 1 rfl) ?_
          refine lv_aload_n hx hb dX7_planGoes_137 rfl (lv_at hl 1 rfl) ?_
          refine va_get (C := RX7) (T := TX7) (N := 34) (ci := 7) (v := .int (f_83 0 14)) hx hb hts inX7 hown hT hP 0 rfl rfl 19 (Nat.le_of_ble_eq_true rfl) lk211 (fun _ h => h) rfl dX7_planGoes_138 ?_
          refine lv_bipush (v := (-4 : Int32)) hx hb dX7_planGoes_141 (bi_m4) ?_
          refine lv_icmp_ne (tgt := 150) hx hb dX7_planGoes_143 (by decide) (fun hc => ?_) (fun hc => ?_)
          · have hf := if_f hf hc
            refine lv_aload_n hx hb dX7_planGoes_150 rfl (lv_at hl 1 rfl) ?_
            refine va_get (C := RX7) (T := TX7) (N := 34) (ci := 7) (v := .int (f_83 0 14)) hx hb hts inX7 hown hT hP 0 rfl rfl 19 (Nat.le_of_ble_eq_true rfl) lk211 (fun _ h => h) rfl dX7_planGoes_151 ?_
            exact hB154 f_83 x2 (f_83 0 14) _ hf hK _ _ _ hP hD hS (lv_sub hl [1, 2, 3] rfl)
          · have hf := if_t hf hc
            refine lv_iload_n hx hb dX7_planGoes_146 rfl (lv_at hl 3 rfl) ?_
            refine lv_goto (tgt := 154) hx hb dX7_planGoes_147 (by decide) ?_
            exact hB154 f_83 x2 x2 _ hf hK _ _ _ hP hD hS (lv_sub hl [1, 2, 3] rfl)
        · have hf := if_f hf hc
          refine lv_aload_n hx hb dX7_planGoes_89 rfl (lv_at hl 1 rfl) ?_
          refine lv_dup hx hb dX7_planGoes_90 rfl ?_
          refine va_get (C := RX7) (T := TX7) (N := 34) (ci := 7) (v := .int (f_83 0 13)) hx hb hts inX7 hown hT hP 0 rfl rfl 18 (Nat.le_of_ble_eq_true rfl) lk208 (fun _ h => h) rfl dX7_planGoes_91 ?_
          refine lv_iconst (v := (nI 1)) hx hb dX7_planGoes_94 (ic_1) ?_
          refine lv_iadd hx hb dX7_planGoes_95 ?_
          refine va_put (C := RX7) (T := TX7) (N := 34) (ci := 7) (ty := .int) (v := .int ((f_83 0 13) + (nI 1))) hx hb hts inX7 tyX7 tyX7_ok nmX7 hown hT hP hD hS 0 rfl rfl 18 (Nat.le_of_ble_eq_true rfl) lk208 (fun _ h => h) rfl (by decide +kernel) rfl rfl (Nat.le_of_ble_eq_true rfl) dX7_planGoes_96 (fun H locs hP hD hS => ?_)
          have hP : va_P G.1 vwCl (wX7 G ad (mset 0 13 ((f_83 0 13) + (nI 1)) f_83)) H := hP
          have hD : va_D A (wX7 G ad (mset 0 13 ((f_83 0 13) + (nI 1)) f_83)) := hD
          refine lv_aload_n hx hb dX7_planGoes_99 rfl (lv_at hl 1 rfl) ?_
          refine lv_dup hx hb dX7_planGoes_100 rfl ?_
          refine va_get (C := RX7) (T := TX7) (N := 34) (ci := 7) (v := .int (f_83 0 15)) hx hb hts inX7 hown hT hP 0 rfl rfl 20 (Nat.le_of_ble_eq_true rfl) lk214 (fun _ h => h) rfl dX7_planGoes_101 ?_
          refine lv_aload_n hx hb dX7_planGoes_104 rfl (lv_at hl 1 rfl) ?_
          refine va_get (C := RX7) (T := TX7) (N := 34) (ci := 7) (v := .ref (ad 1)) hx hb hts inX7 hown hT hP 0 rfl rfl 0 (Nat.le_of_ble_eq_true rfl) lk7 (fun _ h => h) rfl dX7_planGoes_105 ?_
          refine lv_iload_n hx hb dX7_planGoes_108 rfl (lv_at hl 0 rfl) ?_
          refine lv_iconst (v := (nI 3)) hx hb dX7_planGoes_109 (ic_3) ?_
          refine lv_iadd hx hb dX7_planGoes_110 ?_
          obtain ⟨hg, hf⟩ := gd_e hf
          refine va_iald (f := f_83 1) hx hb hT hP 1 0 rfl rfl (inb_e hg) dX7_planGoes_111 ?_
          refine lv_aload_n hx hb dX7_planGoes_112 rfl (lv_at hl 1 rfl) ?_
          refine va_get (C := RX7) (T := TX7) (N := 34) (ci := 7) (v := .ref (ad 1)) hx hb hts inX7 hown hT hP 0 rfl rfl 0 (Nat.le_of_ble_eq_true rfl) lk7 (fun _ h => h) rfl dX7_planGoes_113 ?_
          refine lv_bipush (v := (nI 6)) hx hb dX7_planGoes_116 (bi_6) ?_
          refine lv_aload_n hx hb dX7_planGoes_118 rfl (lv_at hl 1 rfl) ?_
          refine va_get (C := RX7) (T := TX7) (N := 34) (ci := 7) (v := .ref (ad 1)) hx hb hts inX7 hown hT hP 0 rfl rfl 0 (Nat.le_of_ble_eq_true rfl) lk7 (fun _ h => h) rfl dX7_planGoes_119 ?_
          refine lv_iload_n hx hb dX7_planGoes_122 rfl (lv_at hl 0 rfl) ?_
          refine lv_iconst (v := (nI 2)) hx hb dX7_planGoes_123 (ic_2) ?_
          refine lv_iadd hx hb dX7_planGoes_124 ?_
          obtain ⟨hg, hf⟩ := gd_e hf
          refine va_iald (f := f_83 1) hx hb hT hP 1 0 rfl rfl (inb_e hg) dX7_planGoes_125 ?_
          refine lv_iadd hx hb dX7_planGoes_126 ?_
          obtain ⟨hg, hf⟩ := gd_e hf
          refine va_iald (f := f_83 1) hx hb hT hP 1 0 rfl rfl (inb_e hg) dX7_planGoes_127 ?_
          refine lv_imul hx hb dX7_planGoes_128 ?_
          refine lv_iadd hx hb dX7_planGoes_129 ?_
          refine va_put (C := RX7) (T := TX7) (N := 34) (ci := 7) (ty := .int) (v := .int ((f_83 0 15) + ((f_83 1 (((nI 35) + ((nI 4) * x2)) + (nI 3)).toNatClampNeg) * (f_83 1 ((nI 6) + (f_83 1 (((nI 35) + ((nI 4) * x2)) + (nI 2)).toNatClampNeg)).toNatClampNeg)))) hx hb hts inX7 tyX7 tyX7_ok nmX7 hown hT hP hD hS 0 rfl rfl 20 (Nat.le_of_ble_eq_true rfl) lk214 (fun _ h => h) rfl (by decide +kernel) rfl rfl (Nat.le_of_ble_eq_true rfl) dX7_planGoes_130 (fun H locs hP hD hS => ?_)
          have hP : va_P G.1 vwCl (wX7 G ad (mset 0 15 ((f_83 0 15) + ((f_83 1 (((nI 35) + ((nI 4) * x2)) + (nI 3)).toNatClampNeg) * (f_83 1 ((nI 6) + (f_83 1 (((nI 35) + ((nI 4) * x2)) + (nI 2)).toNatClampNeg)).toNatClampNeg))) (mset 0 13 ((f_83 0 13) + (nI 1)) f_83))) H := hP
          have hD : va_D A (wX7 G ad (mset 0 15 ((f_83 0 15) + ((f_83 1 (((nI 35) + ((nI 4) * x2)) + (nI 3)).toNatClampNeg) * (f_83 1 ((nI 6) + (f_83 1 (((nI 35) + ((nI 4) * x2)) + (nI 2)).toNatClampNeg)).toNatClampNeg))) (mset 0 13 ((f_83 0 13) + (nI 1)) f_83))) := hD
          refine lv_goto (tgt := 157) hx hb dX7_planGoes_133 (by decide) ?_
          refine lv_iinc (v := (x2 + nI 1)) (lv' := [(2, .int (x2 + nI 1)), (3, .int ((nI 35) + ((nI 4) * x2))), (0, .ref (ad 0)), (1, .int x1)]) hx hb dX7_planGoes_157 hl (k := 3) rfl (ii_x 1 _) (by decide) rfl (fun ls hl => ?_)
          refine lv_goto (tgt := 26) hx hb dX7_planGoes_160 (by decide) ?_
          have hK9 := K_of hf hK
          have hK9 := hW26 _ hK9
          exact hK9 _ _ _ hP hD hS (lv_sub hl [2, 3, 0] rfl)
  · try dsimp only at hf
    show ∀ (H : Heap) (locs : List Loc) (ls : Array Slot), va_P G.1 vwCl (wX7 G ad f_26) H → va_D A (wX7 G ad f_26) → va_S A s.heap H locs → lv_has ls 4 [] → W p l e ({ frames := 4, cells := 0, slots := 0, locals := 88 }) s m args below meth c H locs 0 0 Q (F0 m 163 ls [])
    intro H locs ls hP hD hS hl
    have hK9 := K0_of hf hK
    exact hRet f_26 _ _ _ _ hK9 dX7_planGoes_163 hP hD hS
noncomputable def p_X7_runs (f : Mem) (x1 : Int32) : Option (Int32 × Mem) :=
  Option.bind (p_X7_in ((x1).toInt64) (lN 0) (2 : Int64)) <| fun r6 =>
  if r6 = 0 then
    (some ((-1 : Int32), f))
  else
    (Option.bind (p_X7_planGoes f (-4 : Int32)) <| fun f_17 =>
     if x1 = 0 then
       (some ((f_17 0 13), f_17))
     else
       (if x1 = (nI 1) then
          (some ((f_17 0 14), f_17))
        else
          (some ((f_17 0 15), f_17))))
set_option maxHeartbeats 4000000 in
set_option maxRecDepth 100000 in
theorem c_X7_runs (l : Launch) (G : Gt) (ad : Nat → Nat) (f : Mem) (x1 : Int32) (r : Int32) (fz : Mem) (hf : p_X7_runs f x1 = some (r, fz)) (sz : Nat) : Met l yX7_runs wsX7_runs ({ frames := 5, cells := 0, slots := 0, locals := 111 }) (Pc0 G sz [.ref (ad 0), .int x1] (wX7 G ad f)) (Qi0 G (va_A (wX7 G ad f) sz) r (wX7 G ad fz)) 0 0 (va_A (wX7 G ad f) sz) := by
  refine metP (Qf := fun A => Qi0 G A r (wX7 G ad fz)) cX7_runs 2 (some .int) (by decide) rfl (Nat.le_of_ble_eq_true rfl) ?_
  intro p e s m below meth c A ls hC hr hlocks hin hE hA hsz hP hD hS hl
  generalize hargs : ([.ref (ad 0), .int x1] : List Value).toArray = args at hC ⊢
  obtain ⟨hx, hb, hml, hown, hts⟩ := id hC
  have hT : va_K G.1 vwCl (tyL G) s := hE.1
  have hRet : ∀ (r9 : Int32) (f9 : Mem) (H : Heap) (locs : List Loc) (ls : Array Slot) (pc : Nat) (hK9 : (r9, f9) = (r, fz)) (hdg : decode cX7_runs pc = .ok (.ireturn, 1)), va_P G.1 vwCl (wX7 G ad f9) H → va_D A (wX7 G ad f9) → va_S A s.heap H locs → W p l e ({ frames := 5, cells := 0, slots := 0, locals := 111 }) s m args below meth c H locs 0 0 (MQ below (Qi0 G A r (wX7 G ad fz)) args s 0 0 A) (F0 m pc ls [.int r9]) := by
    intro r9 f9 H locs ls pc hK9 hdg hP hD hS
    cases hK9
    exact W.iret hx hb hr (fun t ht hW => ⟨⟨r, (), rfl, rfl, by rw [ht]; exact hP, hD⟩, hS.F ht⟩) hS.2.2 hdg hlocks
  generalize MQ below (Qi0 G A r (wX7 G ad fz)) args s 0 0 A = Q at hRet ⊢
  have lk214 := hts (.fieldLink RX7 214 "FeatherSharesModel" "changed" "I") (by decide +kernel)
  have inX7 : ∀ w ∈ u_ws RX7 TX7 34, w ∈ wsX7_runs := by decide +kernel
  have lk211 := hts (.fieldLink RX7 211 "FeatherSharesModel" "firstNot" "I") (by decide +kernel)
  have lk208 := hts (.fieldLink RX7 208 "FeatherSharesModel" "cameMany" "I") (by decide +kernel)
  have hl : lv_has ls 2 [(0, .ref (ad 0)), (1, .int x1)] := hl
  have hK0 : (r, fz) = (r, fz) := rfl
  obtain ⟨res, hres, hK⟩ : ∃ res, p_X7_runs f x1 = some res ∧ res = (r, fz) := ⟨_, hf, rfl⟩
  clear hf
  have hf := hres
  clear hres
  unfold p_X7_runs at hf
  refine lv_iload_n hx hb dX7_runs_0 rfl (lv_at hl 1 rfl) ?_
  refine lv_i2l (v := ((x1).toInt64)) hx hb dX7_runs_1 rfl ?_
  refine lv_lconst (v := (lN 0)) hx hb dX7_runs_2 rfl ?_
  refine W.ldc2 (v := (2 : Int64)) hx hb hown (hts (.constantLong RX7 217 (2 : Int64)) (by decide +kernel)) rfl dX7_runs_3 ?_
  refine W.eq (g2 := F0 m 6 ls [.long (2 : Int64), .long (lN 0), .long ((x1).toInt64)]) rfl ?_
  obtain ⟨r6, hc6, hf⟩ := bd_e hf
  refine cl_z_ro (Wd := (wX7 G ad f)) (Wc := ([] : va_W)) [] rfl (va_runS (As := [.long ((x1).toInt64), .long (lN 0), .long (2 : Int64)]) (rest := []) hC (c_X7_in l G ((x1).toInt64) (lN 0) (2 : Int64) r6 hc6 _) (va_cwS 3 hts gX7_runs_X7_in rfl rfl rfl (by decide +kernel) ⟨Nat.le_of_ble_eq_true rfl, Nat.le_of_ble_eq_true rfl⟩) ⟨Pc0_blind, fun U hU hW => Pc0_at (Wd := ([] : va_W)) hE (hP.subm [] rfl) (hD.sub [] (by decide) rfl) hU hW⟩ rfl rfl hl.1 rfl (lv_room (Nat.le_of_ble_eq_true rfl)) dX7_runs_6 ⟨Nat.zero_le _, Nat.zero_le _⟩) hS hA hP hD (fun H locs hn6 hP hD hS => ?_)
  refine lv_if_ne (tgt := 14) hx hb dX7_runs_9 (by decide) (fun hc => ?_) (fun hc => ?_)
  · have hf := if_f hf hc
    refine lv_aload_n hx hb dX7_runs_14 rfl (lv_at hl 0 rfl) ?_
    refine lv_bipush (v := (-4 : Int32)) hx hb dX7_runs_15 (bi_m4) ?_
    obtain ⟨f_17, hc17, hf⟩ := bd_e hf
    refine cl_v_same (Wd := (wX7 G ad f)) (W' := (wX7 G ad f_17)) (va_runV (As := [.int (-4 : Int32)]) (rest := []) hC (c_X7_planGoes l G ad f (-4 : Int32) f_17 hc17 _) (cwV 1 hts gX7_runs_X7_planGoes rfl rfl rfl (by decide +kernel) ⟨Nat.le_of_ble_eq_true rfl, Nat.le_of_ble_eq_true rfl⟩) ⟨Pc0_blind, va_recv hT hP (q0 := 0) (ci := 7) rfl rfl, fun U hU hW => Pc0_at hE hP hD hU hW⟩ rfl rfl hl.1 rfl (lv_room (Nat.le_of_ble_eq_true rfl)) dX7_runs_17 ⟨Nat.zero_le _, Nat.zero_le _⟩) hS hA hD (fun H locs hP hD hS => ?_)
    refine lv_iload_n hx hb dX7_runs_20 rfl (lv_at hl 1 rfl) ?_
    refine lv_if_ne (tgt := 31) hx hb dX7_runs_21 (by decide) (fun hc => ?_) (fun hc => ?_)
    · have hf := if_f hf hc
      refine lv_iload_n hx hb dX7_runs_31 rfl (lv_at hl 1 rfl) ?_
      refine lv_iconst (v := (nI 1)) hx hb dX7_runs_32 (ic_1) ?_
      refine lv_icmp_ne (tgt := 43) hx hb dX7_runs_33 (by decide) (fun hc => ?_) (fun hc => ?_)
      · have hf := if_f hf hc
        refine lv_aload_n hx hb dX7_runs_43 rfl (lv_at hl 0 rfl) ?_
        refine va_get (C := RX7) (T := TX7) (N := 34) (ci := 7) (v := .int (f_17 0 15)) hx hb hts inX7 hown hT hP 0 rfl rfl 20 (Nat.le_of_ble_eq_true rfl) lk214 (fun _ h => h) rfl dX7_runs_44 ?_
        have hK9 := K0_of hf hK
        exact hRet (f_17 0 15) f_17 _ _ _ _ hK9 dX7_runs_47 hP hD hS
      · have hf := if_t hf hc
        refine lv_aload_n hx hb dX7_runs_36 rfl (lv_at hl 0 rfl) ?_
        refine va_get (C := RX7) (T := TX7) (N := 34) (ci := 7) (v := .int (f_17 0 14)) hx hb hts inX7 hown hT hP 0 rfl rfl 19 (Nat.le_of_ble_eq_true rfl) lk211 (fun _ h => h) rfl dX7_runs_37 ?_
        refine lv_goto (tgt := 47) hx hb dX7_runs_40 (by decide) ?_
        have hK9 := K0_of hf hK
        exact hRet (f_17 0 14) f_17 _ _ _ _ hK9 dX7_runs_47 hP hD hS
    · have hf := if_t hf hc
      refine lv_aload_n hx hb dX7_runs_24 rfl (lv_at hl 0 rfl) ?_
      refine va_get (C := RX7) (T := TX7) (N := 34) (ci := 7) (v := .int (f_17 0 13)) hx hb hts inX7 hown hT hP 0 rfl rfl 18 (Nat.le_of_ble_eq_true rfl) lk208 (fun _ h => h) rfl dX7_runs_25 ?_
      refine lv_goto (tgt := 47) hx hb dX7_runs_28 (by decide) ?_
      have hK9 := K0_of hf hK
      exact hRet (f_17 0 13) f_17 _ _ _ _ hK9 dX7_runs_47 hP hD hS
  · have hf := if_t hf hc
    refine lv_iconst (v := (-1 : Int32)) hx hb dX7_runs_12 (ic_m1) ?_
    have hK9 := K0_of hf hK
    exact hRet (-1 : Int32) f _ _ _ _ hK9 dX7_runs_13 hP hD hS
noncomputable def p_X7_ahead (f : Mem) (x1 : Int32) (x2 : Int32) : Option (Int32 × Mem) :=
  Option.bind (p_X7_isOwner x1) <| fun r1 =>
  if r1 = 0 then
    (some ((-1 : Int32), f))
  else
    (Option.bind (p_X7_in ((x2).toInt64) (lN 0) (3 : Int64)) <| fun r13 =>
     if r13 = 0 then
       (some ((-1 : Int32), f))
     else
       (Option.bind (p_X7_planGoes f (-4 : Int32)) <| fun f_24 =>
        Option.bind (p_X7_ownerOn f_24 (nI 240) x1 x2) <| fun r33 =>
        some (r33, f_24)))
set_option maxHeartbeats 4000000 in
set_option maxRecDepth 100000 in
theorem c_X7_ahead (l : Launch) (G : Gt) (ad : Nat → Nat) (f : Mem) (x1 : Int32) (x2 : Int32) (r : Int32) (fz : Mem) (hf : p_X7_ahead f x1 x2 = some (r, fz)) (sz : Nat) : Met l yX7_ahead wsX7_ahead ({ frames := 6, cells := 0, slots := 0, locals := 130 }) (Pc0 G sz [.ref (ad 0), .int x1, .int x2] (wX7 G ad f)) (Qi0 G (va_A (wX7 G ad f) sz) r (wX7 G ad fz)) 0 0 (va_A (wX7 G ad f) sz) := by
  refine metP (Qf := fun A => Qi0 G A r (wX7 G ad fz)) cX7_ahead 3 (some .int) (by decide) rfl (Nat.le_of_ble_eq_true rfl) ?_
  intro p e s m below meth c A ls hC hr hlocks hin hE hA hsz hP hD hS hl
  generalize hargs : ([.ref (ad 0), .int x1, .int x2] : List Value).toArray = args at hC ⊢
  obtain ⟨hx, hb, hml, hown, hts⟩ := id hC
  have hT : va_K G.1 vwCl (tyL G) s := hE.1
  have hRet : ∀ (r9 : Int32) (f9 : Mem) (H : Heap) (locs : List Loc) (ls : Array Slot) (pc : Nat) (hK9 : (r9, f9) = (r, fz)) (hdg : decode cX7_ahead pc = .ok (.ireturn, 1)), va_P G.1 vwCl (wX7 G ad f9) H → va_D A (wX7 G ad f9) → va_S A s.heap H locs → W p l e ({ frames := 6, cells := 0, slots := 0, locals := 130 }) s m args below meth c H locs 0 0 (MQ below (Qi0 G A r (wX7 G ad fz)) args s 0 0 A) (F0 m pc ls [.int r9]) := by
    intro r9 f9 H locs ls pc hK9 hdg hP hD hS
    cases hK9
    exact W.iret hx hb hr (fun t ht hW => ⟨⟨r, (), rfl, rfl, by rw [ht]; exact hP, hD⟩, hS.F ht⟩) hS.2.2 hdg hlocks
  generalize MQ below (Qi0 G A r (wX7 G ad fz)) args s 0 0 A = Q at hRet ⊢
  have hl : lv_has ls 3 [(0, .ref (ad 0)), (1, .int x1), (2, .int x2)] := hl
  have hK0 : (r, fz) = (r, fz) := rfl
  obtain ⟨res, hres, hK⟩ : ∃ res, p_X7_ahead f x1 x2 = some res ∧ res = (r, fz) := ⟨_, hf, rfl⟩
  clear hf
  have hf := hres
  clear hres
  unfold p_X7_ahead at hf
  refine lv_iload_n hx hb dX7_ahead_0 rfl (lv_at hl 1 rfl) ?_
  obtain ⟨r1, hc1, hf⟩ := bd_e hf
  refine cl_z_ro (Wd := (wX7 G ad f)) (Wc := ([] : va_W)) [] rfl (va_runS (As := [.int x1]) (rest := []) hC (c_X7_isOwner l G x1 r1 hc1 _) (va_cwS 1 hts gX7_ahead_X7_isOwner rfl rfl rfl (by decide +kernel) ⟨Nat.le_of_ble_eq_true rfl, Nat.le_of_ble_eq_true rfl⟩) ⟨Pc0_blind, fun U hU hW => Pc0_at (Wd := ([] : va_W)) hE (hP.subm [] rfl) (hD.sub [] (by decide) rfl) hU hW⟩ rfl rfl hl.1 rfl (lv_room (Nat.le_of_ble_eq_true rfl)) dX7_ahead_1 ⟨Nat.zero_le _, Nat.zero_le _⟩) hS hA hP hD (fun H locs hn1 hP hD hS => ?_)
  refine lv_if_eq (tgt := 19) hx hb dX7_ahead_4 (by decide) (fun hc => ?_) (fun hc => ?_)
  · have hf := if_t hf hc
    refine lv_iconst (v := (-1 : Int32)) hx hb dX7_ahead_19 (ic_m1) ?_
    have hK9 := K0_of hf hK
    exact hRet (-1 : Int32) f _ _ _ _ hK9 dX7_ahead_20 hP hD hS
  · have hf := if_f hf hc
    refine lv_iload_n hx hb dX7_ahead_7 rfl (lv_at hl 2 rfl) ?_
    refine lv_i2l (v := ((x2).toInt64)) hx hb dX7_ahead_8 rfl ?_
    refine lv_lconst (v := (lN 0)) hx hb dX7_ahead_9 rfl ?_
    refine W.ldc2 (v := (3 : Int64)) hx hb hown (hts (.constantLong RX7 169 (3 : Int64)) (by decide +kernel)) rfl dX7_ahead_10 ?_
    refine W.eq (g2 := F0 m 13 ls [.long (3 : Int64), .long (lN 0), .long ((x2).toInt64)]) rfl ?_
    obtain ⟨r13, hc13, hf⟩ := bd_e hf
    refine cl_z_ro (Wd := (wX7 G ad f)) (Wc := ([] : va_W)) [] rfl (va_runS (As := [.long ((x2).toInt64), .long (lN 0), .long (3 : Int64)]) (rest := []) hC (c_X7_in l G ((x2).toInt64) (lN 0) (3 : Int64) r13 hc13 _) (va_cwS 3 hts gX7_ahead_X7_in rfl rfl rfl (by decide +kernel) ⟨Nat.le_of_ble_eq_true rfl, Nat.le_of_ble_eq_true rfl⟩) ⟨Pc0_blind, fun U hU hW => Pc0_at (Wd := ([] : va_W)) hE (hP.subm [] rfl) (hD.sub [] (by decide) rfl) hU hW⟩ rfl rfl hl.1 rfl (lv_room (Nat.le_of_ble_eq_true rfl)) dX7_ahead_13 ⟨Nat.zero_le _, Nat.zero_le _⟩) hS hA hP hD (fun H locs hn13 hP hD hS => ?_)
    refine lv_if_ne (tgt := 21) hx hb dX7_ahead_16 (by decide) (fun hc => ?_) (fun hc => ?_)
    · have hf := if_f hf hc
      refine lv_aload_n hx hb dX7_ahead_21 rfl (lv_at hl 0 rfl) ?_
      refine lv_bipush (v := (-4 : Int32)) hx hb dX7_ahead_22 (bi_m4) ?_
      obtain ⟨f_24, hc24, hf⟩ := bd_e hf
      refine cl_v_same (Wd := (wX7 G ad f)) (W' := (wX7 G ad f_24)) (va_runV (As := [.int (-4 : Int32)]) (rest := []) hC (c_X7_planGoes l G ad f (-4 : Int32) f_24 hc24 _) (cwV 1 hts gX7_ahead_X7_planGoes rfl rfl rfl (by decide +kernel) ⟨Nat.le_of_ble_eq_true rfl, Nat.le_of_ble_eq_true rfl⟩) ⟨Pc0_blind, va_recv hT hP (q0 := 0) (ci := 7) rfl rfl, fun U hU hW => Pc0_at hE hP hD hU hW⟩ rfl rfl hl.1 rfl (lv_room (Nat.le_of_ble_eq_true rfl)) dX7_ahead_24 ⟨Nat.zero_le _, Nat.zero_le _⟩) hS hA hD (fun H locs hP hD hS => ?_)
      refine lv_aload_n hx hb dX7_ahead_27 rfl (lv_at hl 0 rfl) ?_
      refine lv_sipush (v := (nI 240)) hx hb dX7_ahead_28 (si_240) ?_
      refine lv_iload_n hx hb dX7_ahead_31 rfl (lv_at hl 1 rfl) ?_
      refine lv_iload_n hx hb dX7_ahead_32 rfl (lv_at hl 2 rfl) ?_
      obtain ⟨r33, hc33, hf⟩ := bd_e hf
      refine cl_i_same (Wd := (wX7 G ad f_24)) (W' := (wX7 G ad f_24)) (va_runV (As := [.int (nI 240), .int x1, .int x2]) (rest := []) hC (c_X7_ownerOn l G ad f_24 (nI 240) x1 x2 r33 hc33 _) (cwV 3 hts gX7_ahead_X7_ownerOn rfl rfl rfl (by decide +kernel) ⟨Nat.le_of_ble_eq_true rfl, Nat.le_of_ble_eq_true rfl⟩) ⟨Pc0_blind, va_recv hT hP (q0 := 0) (ci := 7) rfl rfl, fun U hU hW => Pc0_at hE hP hD hU hW⟩ rfl rfl hl.1 rfl (lv_room (Nat.le_of_ble_eq_true rfl)) dX7_ahead_33 ⟨Nat.zero_le _, Nat.zero_le _⟩) hS hA hD (fun H locs hP hD hS => ?_)
      have hK9 := K0_of hf hK
      exact hRet r33 f_24 _ _ _ _ hK9 dX7_ahead_36 hP hD hS
    · have hf := if_t hf hc
      refine lv_iconst (v := (-1 : Int32)) hx hb dX7_ahead_19 (ic_m1) ?_
      have hK9 := K0_of hf hK
      exact hRet (-1 : Int32) f _ _ _ _ hK9 dX7_ahead_20 hP hD hS
noncomputable def p_X7_weeksGo_L10 (x1 : Int32) (z : Int32 × Mem) : Option ((Int32 × Mem) ⊕ Mem) :=
  match z with
  | (x2, f_) =>
    if x1 ≤ x2 then
      (some (Sum.inr f_))
    else
      (Option.bind (p_X7_weekOn f_ (nI 240) (nI 1)) <| fun (r20, f_20) =>
       some (Sum.inl ((x2 + nI 1), f_20)))
noncomputable def p_X7_weeksGo (f : Mem) (x1 : Int32) : Option (Mem) :=
  Option.bind (p_X7_copies f (nI 0) (nI 240)) <| fun f_5 =>
  Option.bind (lp (p_X7_weeksGo_L10 x1) ((nI 0), f_5)) <| fun f_10 =>
  some f_10
set_option maxHeartbeats 4000000 in
set_option maxRecDepth 100000 in
theorem c_X7_weeksGo (l : Launch) (G : Gt) (ad : Nat → Nat) (f : Mem) (x1 : Int32) (fz : Mem) (hf : p_X7_weeksGo f x1 = some fz) (sz : Nat) : Met l yX7_weeksGo wsX7_weeksGo ({ frames := 5, cells := 0, slots := 0, locals := 108 }) (Pc0 G sz [.ref (ad 0), .int x1] (wX7 G ad f)) (Qv0 G (va_A (wX7 G ad f) sz) (wX7 G ad fz)) 0 0 (va_A (wX7 G ad f) sz) := by
  refine metP (Qf := fun A => Qv0 G A (wX7 G ad fz)) cX7_weeksGo 3 (none) (by decide) rfl (Nat.le_of_ble_eq_true rfl) ?_
  intro p e s m below meth c A ls hC hr hlocks hin hE hA hsz hP hD hS hl
  generalize hargs : ([.ref (ad 0), .int x1] : List Value).toArray = args at hC ⊢
  obtain ⟨hx, hb, hml, hown, hts⟩ := id hC
  have hT : va_K G.1 vwCl (tyL G) s := hE.1
  have hRet : ∀ (f9 : Mem) (H : Heap) (locs : List Loc) (ls : Array Slot) (pc : Nat) (hK9 : f9 = fz) (hdg : decode cX7_weeksGo pc = .ok (.return_, 1)), va_P G.1 vwCl (wX7 G ad f9) H → va_D A (wX7 G ad f9) → va_S A s.heap H locs → W p l e ({ frames := 5, cells := 0, slots := 0, locals := 108 }) s m args below meth c H locs 0 0 (MQ below (Qv0 G A (wX7 G ad fz)) args s 0 0 A) (F0 m pc ls []) := by
    intro f9 H locs ls pc hK9 hdg hP hD hS
    cases hK9
    exact W.vret hx hb hr (fun t ht hW => ⟨⟨(), rfl, trivial, by rw [ht]; exact hP, hD⟩, hS.F ht⟩) hS.2.2 hdg hlocks
  generalize MQ below (Qv0 G A (wX7 G ad fz)) args s 0 0 A = Q at hRet ⊢
  have hl : lv_has ls 3 [(0, .ref (ad 0)), (1, .int x1)] := hl
  have hK0 : fz = fz := rfl
  obtain ⟨res, hres, hK⟩ : ∃ res, p_X7_weeksGo f x1 = some res ∧ res = fz := ⟨_, hf, rfl⟩
  clear hf
  have hf := hres
  clear hres
  unfold p_X7_weeksGo at hf
  refine lv_aload_n hx hb dX7_weeksGo_0 rfl (lv_at hl 0 rfl) ?_
  refine lv_iconst (v := (nI 0)) hx hb dX7_weeksGo_1 (ic_0) ?_
  refine lv_sipush (v := (nI 240)) hx hb dX7_weeksGo_2 (si_240) ?_
  obtain ⟨f_5, hc5, hf⟩ := bd_e hf
  refine cl_v_same (Wd := (wX7 G ad f)) (W' := (wX7 G ad f_5)) (va_runV (As := [.int (nI 0), .int (nI 240)]) (rest := []) hC (c_X7_copies l G ad f (nI 0) (nI 240) f_5 hc5 _) (cwV 2 hts gX7_weeksGo_X7_copies rfl rfl rfl (by decide +kernel) ⟨Nat.le_of_ble_eq_true rfl, Nat.le_of_ble_eq_true rfl⟩) ⟨Pc0_blind, va_recv hT hP (q0 := 0) (ci := 7) rfl rfl, fun U hU hW => Pc0_at hE hP hD hU hW⟩ rfl rfl hl.1 rfl (lv_room (Nat.le_of_ble_eq_true rfl)) dX7_weeksGo_5 ⟨Nat.zero_le _, Nat.zero_le _⟩) hS hA hD (fun H locs hP hD hS => ?_)
  refine lv_iconst (v := (nI 0)) hx hb dX7_weeksGo_8 (ic_0) ?_
  refine lv_istore_n (lv' := [(2, .int (nI 0)), (0, .ref (ad 0)), (1, .int x1)]) hx hb dX7_weeksGo_9 rfl hl (by decide) rfl (fun ls hl => ?_)
  obtain ⟨f_10, hlp, hf⟩ := bd_e hf
  refine lp_W1 (p_X7_weeksGo_L10 x1) (fun z => match z with | (x2, f_) => ∀ (H : Heap) (locs : List Loc) (ls : Array Slot), va_P G.1 vwCl (wX7 G ad f_) H → va_D A (wX7 G ad f_) → va_S A s.heap H locs → lv_has ls 3 [(0, .ref (ad 0)), (1, .int x1), (2, .int x2)] → W p l e ({ frames := 5, cells := 0, slots := 0, locals := 108 }) s m args below meth c H locs 0 0 Q (F0 m 10 ls [])) (fun (f_10 : Mem) => ∀ (H : Heap) (locs : List Loc) (ls : Array Slot), va_P G.1 vwCl (wX7 G ad f_10) H → va_D A (wX7 G ad f_10) → va_S A s.heap H locs → lv_has ls 3 [] → W p l e ({ frames := 5, cells := 0, slots := 0, locals := 108 }) s m args below meth c H locs 0 0 Q (F0 m 30 ls [])) ?_ hlp ?_ _ _ _ hP hD hS (lv_sub hl [1, 2, 0] rfl)
  · clear hlp hf hK hP hD hS hl
    intro K10 hW10 hX10 
    rintro ⟨x2, f_⟩ res hf hK H locs ls hP hD hS hl
    unfold p_X7_weeksGo_L10 at hf
    dsimp only at hf
    refine lv_iload_n hx hb dX7_weeksGo_10 rfl (lv_at hl 2 rfl) ?_
    refine lv_iload_n hx hb dX7_weeksGo_11 rfl (lv_at hl 1 rfl) ?_
    refine lv_icmp_ge (tgt := 30) hx hb dX7_weeksGo_12 (by decide) (fun hc => ?_) (fun hc => ?_)
    · have hf := if_t hf hc
      have hK9 := K_of hf hK
      have hK9 := hX10 _ hK9
      exact hK9 _ _ _ hP hD hS (lv_sub hl [] rfl)
    · have hf := if_f hf hc
      refine lv_aload_n hx hb dX7_weeksGo_15 rfl (lv_at hl 0 rfl) ?_
      refine lv_sipush (v := (nI 240)) hx hb dX7_weeksGo_16 (si_240) ?_
      refine lv_iconst (v := (nI 1)) hx hb dX7_weeksGo_19 (ic_1) ?_
      obtain ⟨⟨r20, f_20⟩, hc20, hf⟩ := bd_e hf
      try dsimp only at hf
      refine cl_i_same (Wd := (wX7 G ad f_)) (W' := (wX7 G ad f_20)) (va_runV (As := [.int (nI 240), .int (nI 1)]) (rest := []) hC (c_X7_weekOn l G ad f_ (nI 240) (nI 1) r20 f_20 hc20 _) (cwV 2 hts gX7_weeksGo_X7_weekOn rfl rfl rfl (by decide +kernel) ⟨Nat.le_of_ble_eq_true rfl, Nat.le_of_ble_eq_true rfl⟩) ⟨Pc0_blind, va_recv hT hP (q0 := 0) (ci := 7) rfl rfl, fun U hU hW => Pc0_at hE hP hD hU hW⟩ rfl rfl hl.1 rfl (lv_room (Nat.le_of_ble_eq_true rfl)) dX7_weeksGo_20 ⟨Nat.zero_le _, Nat.zero_le _⟩) hS hA hD (fun H locs hP hD hS => ?_)
      refine lv_pop hx hb dX7_weeksGo_23 rfl ?_
      refine lv_iinc (v := (x2 + nI 1)) (lv' := [(2, .int (x2 + nI 1)), (0, .ref (ad 0)), (1, .int x1)]) hx hb dX7_weeksGo_24 hl (k := 2) rfl (ii_x 1 _) (by decide) rfl (fun ls hl => ?_)
      refine lv_goto (tgt := 10) hx hb dX7_weeksGo_27 (by decide) ?_
      have hK9 := K_of hf hK
      have hK9 := hW10 _ hK9
      exact hK9 _ _ _ hP hD hS (lv_sub hl [1, 2, 0] rfl)
  · try dsimp only at hf
    show ∀ (H : Heap) (locs : List Loc) (ls : Array Slot), va_P G.1 vwCl (wX7 G ad f_10) H → va_D A (wX7 G ad f_10) → va_S A s.heap H locs → lv_has ls 3 [] → W p l e ({ frames := 5, cells := 0, slots := 0, locals := 108 }) s m args below meth c H locs 0 0 Q (F0 m 30 ls [])
    intro H locs ls hP hD hS hl
    have hK9 := K0_of hf hK
    exact hRet f_10 _ _ _ _ hK9 dX7_weeksGo_30 hP hD hS
noncomputable def p_X7_later (f : Mem) (x1 : Int32) (x2 : Int32) (x3 : Int32) : Option (Int32 × Mem) :=
  Option.bind (p_X7_isGoose f x1) <| fun r2 =>
  if r2 = 0 then
    (some ((-1 : Int32), f))
  else
    (Option.bind (p_X7_isOwner x2) <| fun r9 =>
     if r9 = 0 then
       (some ((-1 : Int32), f))
     else
       (Option.bind (p_X7_in ((x3).toInt64) (lN 0) (60 : Int64)) <| fun r21 =>
        if r21 = 0 then
          (some ((-1 : Int32), f))
        else
          (Option.bind (p_X7_weeksGo f x3) <| fun f_31 =>
           Option.bind (p_X7_shareOn f_31 (nI 240) x1 x2) <| fun r40 =>
           some (r40, f_31))))
set_option maxHeartbeats 4000000 in
set_option maxRecDepth 100000 in
theorem c_X7_later (l : Launch) (G : Gt) (ad : Nat → Nat) (f : Mem) (x1 : Int32) (x2 : Int32) (x3 : Int32) (r : Int32) (fz : Mem) (hf : p_X7_later f x1 x2 x3 = some (r, fz)) (sz : Nat) : Met l yX7_later wsX7_later ({ frames := 6, cells := 0, slots := 0, locals := 130 }) (Pc0 G sz [.ref (ad 0), .int x1, .int x2, .int x3] (wX7 G ad f)) (Qi0 G (va_A (wX7 G ad f) sz) r (wX7 G ad fz)) 0 0 (va_A (wX7 G ad f) sz) := by
  refine metP (Qf := fun A => Qi0 G A r (wX7 G ad fz)) cX7_later 4 (some .int) (by decide) rfl (Nat.le_of_ble_eq_true rfl) ?_
  intro p e s m below meth c A ls hC hr hlocks hin hE hA hsz hP hD hS hl
  generalize hargs : ([.ref (ad 0), .int x1, .int x2, .int x3] : List Value).toArray = args at hC ⊢
  obtain ⟨hx, hb, hml, hown, hts⟩ := id hC
  have hT : va_K G.1 vwCl (tyL G) s := hE.1
  have hRet : ∀ (r9 : Int32) (f9 : Mem) (H : Heap) (locs : List Loc) (ls : Array Slot) (pc : Nat) (hK9 : (r9, f9) = (r, fz)) (hdg : decode cX7_later pc = .ok (.ireturn, 1)), va_P G.1 vwCl (wX7 G ad f9) H → va_D A (wX7 G ad f9) → va_S A s.heap H locs → W p l e ({ frames := 6, cells := 0, slots := 0, locals := 130 }) s m args below meth c H locs 0 0 (MQ below (Qi0 G A r (wX7 G ad fz)) args s 0 0 A) (F0 m pc ls [.int r9]) := by
    intro r9 f9 H locs ls pc hK9 hdg hP hD hS
    cases hK9
    exact W.iret hx hb hr (fun t ht hW => ⟨⟨r, (), rfl, rfl, by rw [ht]; exact hP, hD⟩, hS.F ht⟩) hS.2.2 hdg hlocks
  generalize MQ below (Qi0 G A r (wX7 G ad fz)) args s 0 0 A = Q at hRet ⊢
  have hl : lv_has ls 4 [(0, .ref (ad 0)), (1, .int x1), (2, .int x2), (3, .int x3)] := hl
  have hK0 : (r, fz) = (r, fz) := rfl
  obtain ⟨res, hres, hK⟩ : ∃ res, p_X7_later f x1 x2 x3 = some res ∧ res = (r, fz) := ⟨_, hf, rfl⟩
  clear hf
  have hf := hres
  clear hres
  unfold p_X7_later at hf
  refine lv_aload_n hx hb dX7_later_0 rfl (lv_at hl 0 rfl) ?_
  refine lv_iload_n hx hb dX7_later_1 rfl (lv_at hl 1 rfl) ?_
  obtain ⟨r2, hc2, hf⟩ := bd_e hf
  refine cl_z_same (Wd := (wX7 G ad f)) (W' := (wX7 G ad f)) (va_runV (As := [.int x1]) (rest := []) hC (c_X7_isGoose l G ad f x1 r2 hc2 _) (cwV 1 hts gX7_later_X7_isGoose rfl rfl rfl (by decide +kernel) ⟨Nat.le_of_ble_eq_true rfl, Nat.le_of_ble_eq_true rfl⟩) ⟨Pc0_blind, va_recv hT hP (q0 := 0) (ci := 7) rfl rfl, fun U hU hW => Pc0_at hE hP hD hU hW⟩ rfl rfl hl.1 rfl (lv_room (Nat.le_of_ble_eq_true rfl)) dX7_later_2 ⟨Nat.zero_le _, Nat.zero_le _⟩) hS hA hD (fun H locs hn2 hP hD hS => ?_)
  refine lv_if_eq (tgt := 27) hx hb dX7_later_5 (by decide) (fun hc => ?_) (fun hc => ?_)
  · have hf := if_t hf hc
    refine lv_iconst (v := (-1 : Int32)) hx hb dX7_later_27 (ic_m1) ?_
    have hK9 := K0_of hf hK
    exact hRet (-1 : Int32) f _ _ _ _ hK9 dX7_later_28 hP hD hS
  · have hf := if_f hf hc
    refine lv_iload_n hx hb dX7_later_8 rfl (lv_at hl 2 rfl) ?_
    obtain ⟨r9, hc9, hf⟩ := bd_e hf
    refine cl_z_ro (Wd := (wX7 G ad f)) (Wc := ([] : va_W)) [] rfl (va_runS (As := [.int x2]) (rest := []) hC (c_X7_isOwner l G x2 r9 hc9 _) (va_cwS 1 hts gX7_later_X7_isOwner rfl rfl rfl (by decide +kernel) ⟨Nat.le_of_ble_eq_true rfl, Nat.le_of_ble_eq_true rfl⟩) ⟨Pc0_blind, fun U hU hW => Pc0_at (Wd := ([] : va_W)) hE (hP.subm [] rfl) (hD.sub [] (by decide) rfl) hU hW⟩ rfl rfl hl.1 rfl (lv_room (Nat.le_of_ble_eq_true rfl)) dX7_later_9 ⟨Nat.zero_le _, Nat.zero_le _⟩) hS hA hP hD (fun H locs hn9 hP hD hS => ?_)
    refine lv_if_eq (tgt := 27) hx hb dX7_later_12 (by decide) (fun hc => ?_) (fun hc => ?_)
    · have hf := if_t hf hc
      refine lv_iconst (v := (-1 : Int32)) hx hb dX7_later_27 (ic_m1) ?_
      have hK9 := K0_of hf hK
      exact hRet (-1 : Int32) f _ _ _ _ hK9 dX7_later_28 hP hD hS
    · have hf := if_f hf hc
      refine lv_iload_n hx hb dX7_later_15 rfl (lv_at hl 3 rfl) ?_
      refine lv_i2l (v := ((x3).toInt64)) hx hb dX7_later_16 rfl ?_
      refine lv_lconst (v := (lN 0)) hx hb dX7_later_17 rfl ?_
      refine W.ldc2 (v := (60 : Int64)) hx hb hown (hts (.constantLong RX7 222 (60 : Int64)) (by decide +kernel)) rfl dX7_later_18 ?_
      refine W.eq (g2 := F0 m 21 ls [.long (60 : Int64), .long (lN 0), .long ((x3).toInt64)]) rfl ?_
      obtain ⟨r21, hc21, hf⟩ := bd_e hf
      refine cl_z_ro (Wd := (wX7 G ad f)) (Wc := ([] : va_W)) [] rfl (va_runS (As := [.long ((x3).toInt64), .long (lN 0), .long (60 : Int64)]) (rest := []) hC (c_X7_in l G ((x3).toInt64) (lN 0) (60 : Int64) r21 hc21 _) (va_cwS 3 hts gX7_later_X7_in rfl rfl rfl (by decide +kernel) ⟨Nat.le_of_ble_eq_true rfl, Nat.le_of_ble_eq_true rfl⟩) ⟨Pc0_blind, fun U hU hW => Pc0_at (Wd := ([] : va_W)) hE (hP.subm [] rfl) (hD.sub [] (by decide) rfl) hU hW⟩ rfl rfl hl.1 rfl (lv_room (Nat.le_of_ble_eq_true rfl)) dX7_later_21 ⟨Nat.zero_le _, Nat.zero_le _⟩) hS hA hP hD (fun H locs hn21 hP hD hS => ?_)
      refine lv_if_ne (tgt := 29) hx hb dX7_later_24 (by decide) (fun hc => ?_) (fun hc => ?_)
      · have hf := if_f hf hc
        refine lv_aload_n hx hb dX7_later_29 rfl (lv_at hl 0 rfl) ?_
        refine lv_iload_n hx hb dX7_later_30 rfl (lv_at hl 3 rfl) ?_
        obtain ⟨f_31, hc31, hf⟩ := bd_e hf
        refine cl_v_same (Wd := (wX7 G ad f)) (W' := (wX7 G ad f_31)) (va_runV (As := [.int x3]) (rest := []) hC (c_X7_weeksGo l G ad f x3 f_31 hc31 _) (cwV 1 hts gX7_later_X7_weeksGo rfl rfl rfl (by decide +kernel) ⟨Nat.le_of_ble_eq_true rfl, Nat.le_of_ble_eq_true rfl⟩) ⟨Pc0_blind, va_recv hT hP (q0 := 0) (ci := 7) rfl rfl, fun U hU hW => Pc0_at hE hP hD hU hW⟩ rfl rfl hl.1 rfl (lv_room (Nat.le_of_ble_eq_true rfl)) dX7_later_31 ⟨Nat.zero_le _, Nat.zero_le _⟩) hS hA hD (fun H locs hP hD hS => ?_)
        refine lv_aload_n hx hb dX7_later_34 rfl (lv_at hl 0 rfl) ?_
        refine lv_sipush (v := (nI 240)) hx hb dX7_later_35 (si_240) ?_
        refine lv_iload_n hx hb dX7_later_38 rfl (lv_at hl 1 rfl) ?_
        refine lv_iload_n hx hb dX7_later_39 rfl (lv_at hl 2 rfl) ?_
        obtain ⟨r40, hc40, hf⟩ := bd_e hf
        refine cl_i_same (Wd := (wX7 G ad f_31)) (W' := (wX7 G ad f_31)) (va_runV (As := [.int (nI 240), .int x1, .int x2]) (rest := []) hC (c_X7_shareOn l G ad f_31 (nI 240) x1 x2 r40 hc40 _) (cwV 3 hts gX7_later_X7_shareOn rfl rfl rfl (by decide +kernel) ⟨Nat.le_of_ble_eq_true rfl, Nat.le_of_ble_eq_true rfl⟩) ⟨Pc0_blind, va_recv hT hP (q0 := 0) (ci := 7) rfl rfl, fun U hU hW => Pc0_at hE hP hD hU hW⟩ rfl rfl hl.1 rfl (lv_room (Nat.le_of_ble_eq_true rfl)) dX7_later_40 ⟨Nat.zero_le _, Nat.zero_le _⟩) hS hA hD (fun H locs hP hD hS => ?_)
        have hK9 := K0_of hf hK
        exact hRet r40 f_31 _ _ _ _ hK9 dX7_later_43 hP hD hS
      · have hf := if_t hf hc
        refine lv_iconst (v := (-1 : Int32)) hx hb dX7_later_27 (ic_m1) ?_
        have hK9 := K0_of hf hK
        exact hRet (-1 : Int32) f _ _ _ _ hK9 dX7_later_28 hP hD hS

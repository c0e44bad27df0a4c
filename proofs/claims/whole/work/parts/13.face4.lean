noncomputable def p_X6_power_B27 (f : Mem) (fnow : Mem) : Option (Int64) :=
  some (-1 : Int64)
noncomputable def p_X6_power_L37 (f : Mem) (fnow : Mem) (x1 : Int32) (x2 : Int32) (x3 : Int32) (z : Int32 × Int32) : Option ((Int32 × Int32) ⊕ Int32) :=
  match z with
  | (x4, x5) =>
    if (nI 5) ≤ x5 then
      (some (Sum.inr x4))
    else
      (Option.bind (p_X0_setsSwungBy fnow x1 x5) <| fun r52 =>
       some (Sum.inl ((x4 + r52), (x5 + nI 1))))
noncomputable def p_X6_power (f : Mem) (fnow : Mem) (x1 : Int32) (x2 : Int32) (x3 : Int32) : Option (Int64) :=
  Option.bind (p_X0_hasGoose fnow x1) <| fun r5 =>
  if r5 = 0 then
    (p_X6_power_B27 f fnow)
  else
    (Option.bind (p_X6_isOwner x2) <| fun r12 =>
     if r12 = 0 then
       (p_X6_power_B27 f fnow)
     else
       (Option.bind (p_X6_isWithin x3 (nI 0) (nI 1)) <| fun r21 =>
        if r21 = 0 then
          (p_X6_power_B27 f fnow)
        else
          (Option.bind (lp (p_X6_power_L37 f fnow x1 x2 x3) ((nI 0), (nI 0))) <| fun y4_37 =>
           Option.bind (p_X0_setsSwungBy fnow x1 x2) <| fun r70 =>
           Option.bind (p_X6_partOfFraction ((r70).toInt64) ((if (nI 1) < y4_37 then y4_37 else (nI 1)).toInt64) x3) <| fun r82 =>
           some r82)))
set_option maxHeartbeats 4000000 in
set_option maxRecDepth 100000 in
theorem c_X6_power (l : Launch) (G : Gt) (ad : Nat → Nat) (ado : Nat → Nat → Nat) (f : Mem) (fnow : Mem) (x1 : Int32) (x2 : Int32) (x3 : Int32) (r : Int64) (hf : p_X6_power f fnow x1 x2 x3 = some r) (sz : Nat) : Met l yX6_power wsX6_power ({ frames := 5, cells := 0, slots := 0, locals := 106 }) (Pc0 G sz [.ref (ad 0), .int x1, .int x2, .int x3] (wX6 G ad ado f ++ (wX0 G (ado 1) fnow))) (Ql0 G (va_A (wX6 G ad ado f ++ (wX0 G (ado 1) fnow)) sz) r (wX6 G ad ado f ++ (wX0 G (ado 1) fnow))) 0 0 (va_A (wX6 G ad ado f ++ (wX0 G (ado 1) fnow)) sz) := by
  refine metP (Qf := fun A => Ql0 G A r (wX6 G ad ado f ++ (wX0 G (ado 1) fnow))) cX6_power 6 (some .long) (by decide) rfl (Nat.le_of_ble_eq_true rfl) ?_
  intro p e s m below meth c A ls hC hr hlocks hin hE hA hsz hP hD hS hl
  generalize hargs : ([.ref (ad 0), .int x1, .int x2, .int x3] : List Value).toArray = args at hC ⊢
  obtain ⟨hx, hb, hml, hown, hts⟩ := id hC
  have hT : va_K G.1 vwCl (tyL G) s := hE.1
  have hRet : ∀ (r9 : Int64) (H : Heap) (locs : List Loc) (ls : Array Slot) (pc : Nat) (hK9 : r9 = r) (hdg : decode cX6_power pc = .ok (.lreturn, 1)), va_P G.1 vwCl (wX6 G ad ado f ++ (wX0 G (ado 1) fnow)) H → va_D A (wX6 G ad ado f ++ (wX0 G (ado 1) fnow)) → va_S A s.heap H locs → W p l e ({ frames := 5, cells := 0, slots := 0, locals := 106 }) s m args below meth c H locs 0 0 (MQ below (Ql0 G A r (wX6 G ad ado f ++ (wX0 G (ado 1) fnow))) args s 0 0 A) (F0 m pc ls [.long r9]) := by
    intro r9 H locs ls pc hK9 hdg hP hD hS
    cases hK9
    exact W.lret hx hb hr (fun t ht hW => ⟨⟨r, (), rfl, rfl, by rw [ht]; exact hP, hD⟩, hS.F ht⟩) hS.2.2 hdg hlocks
  generalize MQ below (Ql0 G A r (wX6 G ad ado f ++ (wX0 G (ado 1) fnow))) args s 0 0 A = Q at hRet ⊢
  have lk12 := hts (.fieldLink RX6 12 "FeatherShares" "now" "LFeatherShares$Flock;") (by decide +kernel)
  have inX6 : ∀ w ∈ u_ws RX6 TX6 11, w ∈ wsX6_power := by decide +kernel
  have hl : lv_has ls 6 [(0, .ref (ad 0)), (1, .int x1), (2, .int x2), (3, .int x3)] := hl
  have hK0 : r = r := rfl
  have hB27 : ∀  (res : Int64) (hf : p_X6_power_B27 f fnow = some res) (hK : res = r), ∀ (H : Heap) (locs : List Loc) (ls : Array Slot), va_P G.1 vwCl (wX6 G ad ado f ++ (wX0 G (ado 1) fnow)) H → va_D A (wX6 G ad ado f ++ (wX0 G (ado 1) fnow)) → va_S A s.heap H locs → lv_has ls 6 [] → W p l e ({ frames := 5, cells := 0, slots := 0, locals := 106 }) s m args below meth c H locs 0 0 Q (F0 m 27 ls []) := by
    intro  res hf hK H locs ls hP hD hS hl
    unfold p_X6_power_B27 at hf
    refine W.ldc2 (v := (-1 : Int64)) hx hb hown (hts (.constantLong RX6 241 (-1 : Int64)) (by decide +kernel)) rfl dX6_power_27 ?_
    refine W.eq (g2 := F0 m 30 ls [.long (-1 : Int64)]) rfl ?_
    have hK9 := K0_of hf hK
    exact hRet (-1 : Int64) _ _ _ _ hK9 dX6_power_30 hP hD hS
  obtain ⟨res, hres, hK⟩ : ∃ res, p_X6_power f fnow x1 x2 x3 = some res ∧ res = r := ⟨_, hf, rfl⟩
  clear hf
  have hf := hres
  clear hres
  unfold p_X6_power at hf
  refine lv_aload_n hx hb dX6_power_0 rfl (lv_at hl 0 rfl) ?_
  refine va_get (C := RX6) (T := TX6) (N := 11) (ci := 6) (v := .ref ((ado 1) 0)) hx hb hts inX6 hown hT hP 0 rfl rfl 0 (Nat.le_of_ble_eq_true rfl) lk12 (fun _ h => h) rfl dX6_power_1 ?_
  refine lv_iload_n hx hb dX6_power_4 rfl (lv_at hl 1 rfl) ?_
  obtain ⟨r5, hc5, hf⟩ := bd_e hf
  refine cl_z_ro (Wd := (wX6 G ad ado f ++ (wX0 G (ado 1) fnow))) (Wc := (wX0 G (ado 1) fnow)) [4, 5, 6, 7, 8, 9, 10, 11, 12, 13, 14] rfl (va_runVN (As := [.int x1]) (rest := []) hC (c_X0_hasGoose l G (ado 1) fnow x1 r5 hc5 _) ⟨va_cnB 1 hts gX6_power_X0_hasGoose_n126 rfl rfl rfl (hE.2.2 (RX6, 126, yX0_hasGoose, "FeatherShares") (List.mem_of_getElem? (i := 10) rfl)) (hts (.initialized RX0) (by decide +kernel)) (by decide +kernel) ⟨Nat.le_of_ble_eq_true rfl, Nat.le_of_ble_eq_true rfl⟩, hts (.instanceMethod yX0_hasGoose) (by decide +kernel), hts (.selects RX0 yX0_hasGoose yX0_hasGoose) (by decide +kernel)⟩ ⟨Pc0_blind, va_recv hT hP (q0 := 4) (ci := 0) rfl rfl, fun U hU hW => Pc0_at (Wd := (wX0 G (ado 1) fnow)) hE (hP.subm [4, 5, 6, 7, 8, 9, 10, 11, 12, 13, 14] rfl) (hD.sub [4, 5, 6, 7, 8, 9, 10, 11, 12, 13, 14] (by decide) rfl) hU hW⟩ rfl rfl hl.1 rfl (lv_room (Nat.le_of_ble_eq_true rfl)) dX6_power_5 ⟨Nat.zero_le _, Nat.zero_le _⟩) hS hA hP hD (fun H locs hn5 hP hD hS => ?_)
  refine lv_if_eq (tgt := 27) hx hb dX6_power_8 (by decide) (fun hc => ?_) (fun hc => ?_)
  · have hf := if_t hf hc
    exact hB27  _ hf hK _ _ _ hP hD hS (lv_sub hl [] rfl)
  · have hf := if_f hf hc
    refine lv_iload_n hx hb dX6_power_11 rfl (lv_at hl 2 rfl) ?_
    obtain ⟨r12, hc12, hf⟩ := bd_e hf
    refine cl_z_ro (Wd := (wX6 G ad ado f ++ (wX0 G (ado 1) fnow))) (Wc := ([] : va_W)) [] rfl (va_runS (As := [.int x2]) (rest := []) hC (c_X6_isOwner l G x2 r12 hc12 _) (va_cwS 1 hts gX6_power_X6_isOwner rfl rfl rfl (by decide +kernel) ⟨Nat.le_of_ble_eq_true rfl, Nat.le_of_ble_eq_true rfl⟩) ⟨Pc0_blind, fun U hU hW => Pc0_at (Wd := ([] : va_W)) hE (hP.subm [] rfl) (hD.sub [] (by decide) rfl) hU hW⟩ rfl rfl hl.1 rfl (lv_room (Nat.le_of_ble_eq_true rfl)) dX6_power_12 ⟨Nat.zero_le _, Nat.zero_le _⟩) hS hA hP hD (fun H locs hn12 hP hD hS => ?_)
    refine lv_if_eq (tgt := 27) hx hb dX6_power_15 (by decide) (fun hc => ?_) (fun hc => ?_)
    · have hf := if_t hf hc
      exact hB27  _ hf hK _ _ _ hP hD hS (lv_sub hl [] rfl)
    · have hf := if_f hf hc
      refine lv_iload_n hx hb dX6_power_18 rfl (lv_at hl 3 rfl) ?_
      refine lv_iconst (v := (nI 0)) hx hb dX6_power_19 (ic_0) ?_
      refine lv_iconst (v := (nI 1)) hx hb dX6_power_20 (ic_1) ?_
      obtain ⟨r21, hc21, hf⟩ := bd_e hf
      refine cl_z_ro (Wd := (wX6 G ad ado f ++ (wX0 G (ado 1) fnow))) (Wc := ([] : va_W)) [] rfl (va_runS (As := [.int x3, .int (nI 0), .int (nI 1)]) (rest := []) hC (c_X6_isWithin l G x3 (nI 0) (nI 1) r21 hc21 _) (va_cwS 3 hts gX6_power_X6_isWithin rfl rfl rfl (by decide +kernel) ⟨Nat.le_of_ble_eq_true rfl, Nat.le_of_ble_eq_true rfl⟩) ⟨Pc0_blind, fun U hU hW => Pc0_at (Wd := ([] : va_W)) hE (hP.subm [] rfl) (hD.sub [] (by decide) rfl) hU hW⟩ rfl rfl hl.1 rfl (lv_room (Nat.le_of_ble_eq_true rfl)) dX6_power_21 ⟨Nat.zero_le _, Nat.zero_le _⟩) hS hA hP hD (fun H locs hn21 hP hD hS => ?_)
      refine lv_if_ne (tgt := 31) hx hb dX6_power_24 (by decide) (fun hc => ?_) (fun hc => ?_)
      · have hf := if_f hf hc
        refine lv_iconst (v := (nI 0)) hx hb dX6_power_31 (ic_0) ?_
        refine lv_istore (lv' := [(4, .int (nI 0)), (0, .ref (ad 0)), (1, .int x1), (2, .int x2), (3, .int x3)]) hx hb dX6_power_32 hl (by decide) rfl (fun ls hl => ?_)
        refine lv_iconst (v := (nI 0)) hx hb dX6_power_34 (ic_0) ?_
        refine lv_istore (lv' := [(5, .int (nI 0)), (4, .int (nI 0)), (0, .ref (ad 0)), (1, .int x1), (2, .int x2), (3, .int x3)]) hx hb dX6_power_35 hl (by decide) rfl (fun ls hl => ?_)
        obtain ⟨y4_37, hlp, hf⟩ := bd_e hf
        refine lp_W1 (p_X6_power_L37 f fnow x1 x2 x3) (fun z => match z with | (x4, x5) => ∀ (H : Heap) (locs : List Loc) (ls : Array Slot), va_P G.1 vwCl (wX6 G ad ado f ++ (wX0 G (ado 1) fnow)) H → va_D A (wX6 G ad ado f ++ (wX0 G (ado 1) fnow)) → va_S A s.heap H locs → lv_has ls 6 [(0, .ref (ad 0)), (1, .int x1), (2, .int x2), (3, .int x3), (4, .int x4), (5, .int x5)] → W p l e ({ frames := 5, cells := 0, slots := 0, locals := 106 }) s m args below meth c H locs 0 0 Q (F0 m 37 ls [])) (fun (y4_37 : Int32) => ∀ (H : Heap) (locs : List Loc) (ls : Array Slot), va_P G.1 vwCl (wX6 G ad ado f ++ (wX0 G (ado 1) fnow)) H → va_D A (wX6 G ad ado f ++ (wX0 G (ado 1) fnow)) → va_S A s.heap H locs → lv_has ls 6 [(0, .ref (ad 0)), (1, .int x1), (2, .int x2), (3, .int x3), (4, .int y4_37)] → W p l e ({ frames := 5, cells := 0, slots := 0, locals := 106 }) s m args below meth c H locs 0 0 Q (F0 m 64 ls [])) ?_ hlp ?_ _ _ _ hP hD hS (lv_sub hl [2, 3, 4, 5, 1, 0] rfl)
        · clear hlp hf hK hP hD hS hl
          intro K37 hW37 hX37 
          rintro ⟨x4, x5⟩ res hf hK H locs ls hP hD hS hl
          unfold p_X6_power_L37 at hf
          dsimp only at hf
          refine lv_iload hx hb dX6_power_37 (lv_at hl 5 rfl) ?_
          refine lv_iconst (v := (nI 5)) hx hb dX6_power_39 (ic_5) ?_
          refine lv_icmp_ge (tgt := 64) hx hb dX6_power_40 (by decide) (fun hc => ?_) (fun hc => ?_)
          · have hf := if_t hf hc
            have hK9 := K_of hf hK
            have hK9 := hX37 _ hK9
            exact hK9 _ _ _ hP hD hS (lv_sub hl [0, 1, 2, 3, 4] rfl)
          · have hf := if_f hf hc
            refine lv_iload hx hb dX6_power_43 (lv_at hl 4 rfl) ?_
            refine lv_aload_n hx hb dX6_power_45 rfl (lv_at hl 0 rfl) ?_
            refine va_get (C := RX6) (T := TX6) (N := 11) (ci := 6) (v := .ref ((ado 1) 0)) hx hb hts inX6 hown hT hP 0 rfl rfl 0 (Nat.le_of_ble_eq_true rfl) lk12 (fun _ h => h) rfl dX6_power_46 ?_
            refine lv_iload_n hx hb dX6_power_49 rfl (lv_at hl 1 rfl) ?_
            refine lv_iload hx hb dX6_power_50 (lv_at hl 5 rfl) ?_
            obtain ⟨r52, hc52, hf⟩ := bd_e hf
            refine cl_i_ro (Wd := (wX6 G ad ado f ++ (wX0 G (ado 1) fnow))) (Wc := (wX0 G (ado 1) fnow)) [4, 5, 6, 7, 8, 9, 10, 11, 12, 13, 14] rfl (va_runVN (As := [.int x1, .int x5]) (rest := [.int x4]) hC (c_X0_setsSwungBy l G (ado 1) fnow x1 x5 r52 hc52 _) ⟨va_cnB 2 hts gX6_power_X0_setsSwungBy_n238 rfl rfl rfl (hE.2.2 (RX6, 238, yX0_setsSwungBy, "FeatherShares") (List.mem_of_getElem? (i := 29) rfl)) (hts (.initialized RX0) (by decide +kernel)) (by decide +kernel) ⟨Nat.le_of_ble_eq_true rfl, Nat.le_of_ble_eq_true rfl⟩, hts (.instanceMethod yX0_setsSwungBy) (by decide +kernel), hts (.selects RX0 yX0_setsSwungBy yX0_setsSwungBy) (by decide +kernel)⟩ ⟨Pc0_blind, va_recv hT hP (q0 := 4) (ci := 0) rfl rfl, fun U hU hW => Pc0_at (Wd := (wX0 G (ado 1) fnow)) hE (hP.subm [4, 5, 6, 7, 8, 9, 10, 11, 12, 13, 14] rfl) (hD.sub [4, 5, 6, 7, 8, 9, 10, 11, 12, 13, 14] (by decide) rfl) hU hW⟩ rfl rfl hl.1 rfl (lv_room (Nat.le_of_ble_eq_true rfl)) dX6_power_52 ⟨Nat.zero_le _, Nat.zero_le _⟩) hS hA hP hD (fun H locs hP hD hS => ?_)
            refine lv_iadd hx hb dX6_power_55 ?_
            refine lv_istore (lv' := [(4, .int (x4 + r52)), (0, .ref (ad 0)), (1, .int x1), (2, .int x2), (3, .int x3), (5, .int x5)]) hx hb dX6_power_56 hl (by decide) rfl (fun ls hl => ?_)
            refine lv_iinc (v := (x5 + nI 1)) (lv' := [(5, .int (x5 + nI 1)), (4, .int (x4 + r52)), (0, .ref (ad 0)), (1, .int x1), (2, .int x2), (3, .int x3)]) hx hb dX6_power_58 hl (k := 5) rfl (ii_x 1 _) (by decide) rfl (fun ls hl => ?_)
            refine lv_goto (tgt := 37) hx hb dX6_power_61 (by decide) ?_
            have hK9 := K_of hf hK
            have hK9 := hW37 _ hK9
            exact hK9 _ _ _ hP hD hS (lv_sub hl [2, 3, 4, 5, 1, 0] rfl)
        · try dsimp only at hf
          show ∀ (H : Heap) (locs : List Loc) (ls : Array Slot), va_P G.1 vwCl (wX6 G ad ado f ++ (wX0 G (ado 1) fnow)) H → va_D A (wX6 G ad ado f ++ (wX0 G (ado 1) fnow)) → va_S A s.heap H locs → lv_has ls 6 [(0, .ref (ad 0)), (1, .int x1), (2, .int x2), (3, .int x3), (4, .int y4_37)] → W p l e ({ frames := 5, cells := 0, slots := 0, locals := 106 }) s m args below meth c H locs 0 0 Q (F0 m 64 ls [])
          intro H locs ls hP hD hS hl
          refine lv_aload_n hx hb dX6_power_64 rfl (lv_at hl 0 rfl) ?_
          refine va_get (C := RX6) (T := TX6) (N := 11) (ci := 6) (v := .ref ((ado 1) 0)) hx hb hts inX6 hown hT hP 0 rfl rfl 0 (Nat.le_of_ble_eq_true rfl) lk12 (fun _ h => h) rfl dX6_power_65 ?_
          refine lv_iload_n hx hb dX6_power_68 rfl (lv_at hl 1 rfl) ?_
          refine lv_iload_n hx hb dX6_power_69 rfl (lv_at hl 2 rfl) ?_
          obtain ⟨r70, hc70, hf⟩ := bd_e hf
          refine cl_i_ro (Wd := (wX6 G ad ado f ++ (wX0 G (ado 1) fnow))) (Wc := (wX0 G (ado 1) fnow)) [4, 5, 6, 7, 8, 9, 10, 11, 12, 13, 14] rfl (va_runVN (As := [.int x1, .int x2]) (rest := []) hC (c_X0_setsSwungBy l G (ado 1) fnow x1 x2 r70 hc70 _) ⟨va_cnB 2 hts gX6_power_X0_setsSwungBy_n238 rfl rfl rfl (hE.2.2 (RX6, 238, yX0_setsSwungBy, "FeatherShares") (List.mem_of_getElem? (i := 29) rfl)) (hts (.initialized RX0) (by decide +kernel)) (by decide +kernel) ⟨Nat.le_of_ble_eq_true rfl, Nat.le_of_ble_eq_true rfl⟩, hts (.instanceMethod yX0_setsSwungBy) (by decide +kernel), hts (.selects RX0 yX0_setsSwungBy yX0_setsSwungBy) (by decide +kernel)⟩ ⟨Pc0_blind, va_recv hT hP (q0 := 4) (ci := 0) rfl rfl, fun U hU hW => Pc0_at (Wd := (wX0 G (ado 1) fnow)) hE (hP.subm [4, 5, 6, 7, 8, 9, 10, 11, 12, 13, 14] rfl) (hD.sub [4, 5, 6, 7, 8, 9, 10, 11, 12, 13, 14] (by decide) rfl) hU hW⟩ rfl rfl hl.1 rfl (lv_room (Nat.le_of_ble_eq_true rfl)) dX6_power_70 ⟨Nat.zero_le _, Nat.zero_le _⟩) hS hA hP hD (fun H locs hP hD hS => ?_)
          refine lv_i2l (v := ((r70).toInt64)) hx hb dX6_power_73 rfl ?_
          refine lv_iconst (v := (nI 1)) hx hb dX6_power_74 (ic_1) ?_
          refine lv_iload hx hb dX6_power_75 (lv_at hl 4 rfl) ?_
          refine va_mmax hx hb (hml.trans hl.1.symm) hown (hts (.methodLink RX6 243 Lib.Math.max.name) (by decide +kernel)) (hts (.static Lib.Math.max.name) (by decide +kernel)) (hts (.initialized "java/lang/Math") (by decide +kernel)) (hts (.code Lib.Math.max.name Lib.Math.max.code 2 (some .int)) (by decide +kernel)) (Nat.le_of_ble_eq_true rfl) (Nat.le_of_ble_eq_true rfl) (Nat.zero_le _) (Nat.zero_le _) dX6_power_77 ?_
          refine lv_i2l (v := ((if (nI 1) < y4_37 then y4_37 else (nI 1)).toInt64)) hx hb dX6_power_80 rfl ?_
          refine lv_iload_n hx hb dX6_power_81 rfl (lv_at hl 3 rfl) ?_
          obtain ⟨r82, hc82, hf⟩ := bd_e hf
          refine cl_l_ro (Wd := (wX6 G ad ado f ++ (wX0 G (ado 1) fnow))) (Wc := ([] : va_W)) [] rfl (va_runS (As := [.long ((r70).toInt64), .long ((if (nI 1) < y4_37 then y4_37 else (nI 1)).toInt64), .int x3]) (rest := []) hC (c_X6_partOfFraction l G ((r70).toInt64) ((if (nI 1) < y4_37 then y4_37 else (nI 1)).toInt64) x3 r82 hc82 _) (va_cwS 3 hts gX6_power_X6_partOfFraction rfl rfl rfl (by decide +kernel) ⟨Nat.le_of_ble_eq_true rfl, Nat.le_of_ble_eq_true rfl⟩) ⟨Pc0_blind, fun U hU hW => Pc0_at (Wd := ([] : va_W)) hE (hP.subm [] rfl) (hD.sub [] (by decide) rfl) hU hW⟩ rfl rfl hl.1 rfl (lv_room (Nat.le_of_ble_eq_true rfl)) dX6_power_82 ⟨Nat.zero_le _, Nat.zero_le _⟩) hS hA hP hD (fun H locs hP hD hS => ?_)
          have hK9 := K0_of hf hK
          exact hRet r82 _ _ _ _ hK9 dX6_power_85 hP hD hS
      · have hf := if_t hf hc
        exact hB27  _ hf hK _ _ _ hP hD hS (lv_sub hl [] rfl)
noncomputable def p_X6_reign (f : Mem) (fnow : Mem) (x1 : Int32) (x2 : Int32) : Option (Int32) :=
  Option.bind (p_X0_hasGoose fnow x1) <| fun r5 =>
  if r5 = 0 then
    (some (-1 : Int32))
  else
    (Option.bind (p_X6_isOwner x2) <| fun r12 =>
     if r12 = 0 then
       (some (-1 : Int32))
     else
       (Option.bind (p_X0_feathersOf fnow x1) <| fun r25 =>
        Option.bind (p_X0_held fnow x1 x2) <| fun r34 =>
        if (nI 99) < ((r25 - r34) + (nI 1)) then
          (some (-4 : Int32))
        else
          (some ((r25 - r34) + (nI 1)))))
set_option maxHeartbeats 4000000 in
set_option maxRecDepth 100000 in
theorem c_X6_reign (l : Launch) (G : Gt) (ad : Nat → Nat) (ado : Nat → Nat → Nat) (f : Mem) (fnow : Mem) (x1 : Int32) (x2 : Int32) (r : Int32) (hf : p_X6_reign f fnow x1 x2 = some r) (sz : Nat) : Met l yX6_reign wsX6_reign ({ frames := 3, cells := 0, slots := 0, locals := 57 }) (Pc0 G sz [.ref (ad 0), .int x1, .int x2] (wX6 G ad ado f ++ (wX0 G (ado 1) fnow))) (Qi0 G (va_A (wX6 G ad ado f ++ (wX0 G (ado 1) fnow)) sz) r (wX6 G ad ado f ++ (wX0 G (ado 1) fnow))) 0 0 (va_A (wX6 G ad ado f ++ (wX0 G (ado 1) fnow)) sz) := by
  refine metP (Qf := fun A => Qi0 G A r (wX6 G ad ado f ++ (wX0 G (ado 1) fnow))) cX6_reign 4 (some .int) (by decide) rfl (Nat.le_of_ble_eq_true rfl) ?_
  intro p e s m below meth c A ls hC hr hlocks hin hE hA hsz hP hD hS hl
  generalize hargs : ([.ref (ad 0), .int x1, .int x2] : List Value).toArray = args at hC ⊢
  obtain ⟨hx, hb, hml, hown, hts⟩ := id hC
  have hT : va_K G.1 vwCl (tyL G) s := hE.1
  have hRet : ∀ (r9 : Int32) (H : Heap) (locs : List Loc) (ls : Array Slot) (pc : Nat) (hK9 : r9 = r) (hdg : decode cX6_reign pc = .ok (.ireturn, 1)), va_P G.1 vwCl (wX6 G ad ado f ++ (wX0 G (ado 1) fnow)) H → va_D A (wX6 G ad ado f ++ (wX0 G (ado 1) fnow)) → va_S A s.heap H locs → W p l e ({ frames := 3, cells := 0, slots := 0, locals := 57 }) s m args below meth c H locs 0 0 (MQ below (Qi0 G A r (wX6 G ad ado f ++ (wX0 G (ado 1) fnow))) args s 0 0 A) (F0 m pc ls [.int r9]) := by
    intro r9 H locs ls pc hK9 hdg hP hD hS
    cases hK9
    exact W.iret hx hb hr (fun t ht hW => ⟨⟨r, (), rfl, rfl, by rw [ht]; exact hP, hD⟩, hS.F ht⟩) hS.2.2 hdg hlocks
  generalize MQ below (Qi0 G A r (wX6 G ad ado f ++ (wX0 G (ado 1) fnow))) args s 0 0 A = Q at hRet ⊢
  have lk12 := hts (.fieldLink RX6 12 "FeatherShares" "now" "LFeatherShares$Flock;") (by decide +kernel)
  have inX6 : ∀ w ∈ u_ws RX6 TX6 11, w ∈ wsX6_reign := by decide +kernel
  have hl : lv_has ls 4 [(0, .ref (ad 0)), (1, .int x1), (2, .int x2)] := hl
  have hK0 : r = r := rfl
  obtain ⟨res, hres, hK⟩ : ∃ res, p_X6_reign f fnow x1 x2 = some res ∧ res = r := ⟨_, hf, rfl⟩
  clear hf
  have hf := hres
  clear hres
  unfold p_X6_reign at hf
  refine lv_aload_n hx hb dX6_reign_0 rfl (lv_at hl 0 rfl) ?_
  refine va_get (C := RX6) (T := TX6) (N := 11) (ci := 6) (v := .ref ((ado 1) 0)) hx hb hts inX6 hown hT hP 0 rfl rfl 0 (Nat.le_of_ble_eq_true rfl) lk12 (fun _ h => h) rfl dX6_reign_1 ?_
  refine lv_iload_n hx hb dX6_reign_4 rfl (lv_at hl 1 rfl) ?_
  obtain ⟨r5, hc5, hf⟩ := bd_e hf
  refine cl_z_ro (Wd := (wX6 G ad ado f ++ (wX0 G (ado 1) fnow))) (Wc := (wX0 G (ado 1) fnow)) [4, 5, 6, 7, 8, 9, 10, 11, 12, 13, 14] rfl (va_runVN (As := [.int x1]) (rest := []) hC (c_X0_hasGoose l G (ado 1) fnow x1 r5 hc5 _) ⟨va_cnB 1 hts gX6_reign_X0_hasGoose_n126 rfl rfl rfl (hE.2.2 (RX6, 126, yX0_hasGoose, "FeatherShares") (List.mem_of_getElem? (i := 10) rfl)) (hts (.initialized RX0) (by decide +kernel)) (by decide +kernel) ⟨Nat.le_of_ble_eq_true rfl, Nat.le_of_ble_eq_true rfl⟩, hts (.instanceMethod yX0_hasGoose) (by decide +kernel), hts (.selects RX0 yX0_hasGoose yX0_hasGoose) (by decide +kernel)⟩ ⟨Pc0_blind, va_recv hT hP (q0 := 4) (ci := 0) rfl rfl, fun U hU hW => Pc0_at (Wd := (wX0 G (ado 1) fnow)) hE (hP.subm [4, 5, 6, 7, 8, 9, 10, 11, 12, 13, 14] rfl) (hD.sub [4, 5, 6, 7, 8, 9, 10, 11, 12, 13, 14] (by decide) rfl) hU hW⟩ rfl rfl hl.1 rfl (lv_room (Nat.le_of_ble_eq_true rfl)) dX6_reign_5 ⟨Nat.zero_le _, Nat.zero_le _⟩) hS hA hP hD (fun H locs hn5 hP hD hS => ?_)
  refine lv_if_eq (tgt := 18) hx hb dX6_reign_8 (by decide) (fun hc => ?_) (fun hc => ?_)
  · have hf := if_t hf hc
    refine lv_iconst (v := (-1 : Int32)) hx hb dX6_reign_18 (ic_m1) ?_
    have hK9 := K0_of hf hK
    exact hRet (-1 : Int32) _ _ _ _ hK9 dX6_reign_19 hP hD hS
  · have hf := if_f hf hc
    refine lv_iload_n hx hb dX6_reign_11 rfl (lv_at hl 2 rfl) ?_
    obtain ⟨r12, hc12, hf⟩ := bd_e hf
    refine cl_z_ro (Wd := (wX6 G ad ado f ++ (wX0 G (ado 1) fnow))) (Wc := ([] : va_W)) [] rfl (va_runS (As := [.int x2]) (rest := []) hC (c_X6_isOwner l G x2 r12 hc12 _) (va_cwS 1 hts gX6_reign_X6_isOwner rfl rfl rfl (by decide +kernel) ⟨Nat.le_of_ble_eq_true rfl, Nat.le_of_ble_eq_true rfl⟩) ⟨Pc0_blind, fun U hU hW => Pc0_at (Wd := ([] : va_W)) hE (hP.subm [] rfl) (hD.sub [] (by decide) rfl) hU hW⟩ rfl rfl hl.1 rfl (lv_room (Nat.le_of_ble_eq_true rfl)) dX6_reign_12 ⟨Nat.zero_le _, Nat.zero_le _⟩) hS hA hP hD (fun H locs hn12 hP hD hS => ?_)
    refine lv_if_ne (tgt := 20) hx hb dX6_reign_15 (by decide) (fun hc => ?_) (fun hc => ?_)
    · have hf := if_f hf hc
      refine lv_aload_n hx hb dX6_reign_20 rfl (lv_at hl 0 rfl) ?_
      refine va_get (C := RX6) (T := TX6) (N := 11) (ci := 6) (v := .ref ((ado 1) 0)) hx hb hts inX6 hown hT hP 0 rfl rfl 0 (Nat.le_of_ble_eq_true rfl) lk12 (fun _ h => h) rfl dX6_reign_21 ?_
      refine lv_iload_n hx hb dX6_reign_24 rfl (lv_at hl 1 rfl) ?_
      obtain ⟨r25, hc25, hf⟩ := bd_e hf
      refine cl_i_ro (Wd := (wX6 G ad ado f ++ (wX0 G (ado 1) fnow))) (Wc := (wX0 G (ado 1) fnow)) [4, 5, 6, 7, 8, 9, 10, 11, 12, 13, 14] rfl (va_runVN (As := [.int x1]) (rest := []) hC (c_X0_feathersOf l G (ado 1) fnow x1 r25 hc25 _) ⟨va_cnB 1 hts gX6_reign_X0_feathersOf_n138 rfl rfl rfl (hE.2.2 (RX6, 138, yX0_feathersOf, "FeatherShares") (List.mem_of_getElem? (i := 11) rfl)) (hts (.initialized RX0) (by decide +kernel)) (by decide +kernel) ⟨Nat.le_of_ble_eq_true rfl, Nat.le_of_ble_eq_true rfl⟩, hts (.instanceMethod yX0_feathersOf) (by decide +kernel), hts (.selects RX0 yX0_feathersOf yX0_feathersOf) (by decide +kernel)⟩ ⟨Pc0_blind, va_recv hT hP (q0 := 4) (ci := 0) rfl rfl, fun U hU hW => Pc0_at (Wd := (wX0 G (ado 1) fnow)) hE (hP.subm [4, 5, 6, 7, 8, 9, 10, 11, 12, 13, 14] rfl) (hD.sub [4, 5, 6, 7, 8, 9, 10, 11, 12, 13, 14] (by decide) rfl) hU hW⟩ rfl rfl hl.1 rfl (lv_room (Nat.le_of_ble_eq_true rfl)) dX6_reign_25 ⟨Nat.zero_le _, Nat.zero_le _⟩) hS hA hP hD (fun H locs hP hD hS => ?_)
      refine lv_aload_n hx hb dX6_reign_28 rfl (lv_at hl 0 rfl) ?_
      refine va_get (C := RX6) (T := TX6) (N := 11) (ci := 6) (v := .ref ((ado 1) 0)) hx hb hts inX6 hown hT hP 0 rfl rfl 0 (Nat.le_of_ble_eq_true rfl) lk12 (fun _ h => h) rfl dX6_reign_29 ?_
      refine lv_iload_n hx hb dX6_reign_32 rfl (lv_at hl 1 rfl) ?_
      refine lv_iload_n hx hb dX6_reign_33 rfl (lv_at hl 2 rfl) ?_
      obtain ⟨r34, hc34, hf⟩ := bd_e hf
      refine cl_i_ro (Wd := (wX6 G ad ado f ++ (wX0 G (ado 1) fnow))) (Wc := (wX0 G (ado 1) fnow)) [4, 5, 6, 7, 8, 9, 10, 11, 12, 13, 14] rfl (va_runVN (As := [.int x1, .int x2]) (rest := [.int r25]) hC (c_X0_held l G (ado 1) fnow x1 x2 r34 hc34 _) ⟨va_cnB 2 hts gX6_reign_X0_held_n152 rfl rfl rfl (hE.2.2 (RX6, 152, yX0_held, "FeatherShares") (List.mem_of_getElem? (i := 14) rfl)) (hts (.initialized RX0) (by decide +kernel)) (by decide +kernel) ⟨Nat.le_of_ble_eq_true rfl, Nat.le_of_ble_eq_true rfl⟩, hts (.instanceMethod yX0_held) (by decide +kernel), hts (.selects RX0 yX0_held yX0_held) (by decide +kernel)⟩ ⟨Pc0_blind, va_recv hT hP (q0 := 4) (ci := 0) rfl rfl, fun U hU hW => Pc0_at (Wd := (wX0 G (ado 1) fnow)) hE (hP.subm [4, 5, 6, 7, 8, 9, 10, 11, 12, 13, 14] rfl) (hD.sub [4, 5, 6, 7, 8, 9, 10, 11, 12, 13, 14] (by decide) rfl) hU hW⟩ rfl rfl hl.1 rfl (lv_room (Nat.le_of_ble_eq_true rfl)) dX6_reign_34 ⟨Nat.zero_le _, Nat.zero_le _⟩) hS hA hP hD (fun H locs hP hD hS => ?_)
      refine lv_isub hx hb dX6_reign_37 ?_
      refine lv_iconst (v := (nI 1)) hx hb dX6_reign_38 (ic_1) ?_
      refine lv_iadd hx hb dX6_reign_39 ?_
      refine lv_istore_n (lv' := [(3, .int ((r25 - r34) + (nI 1))), (0, .ref (ad 0)), (1, .int x1), (2, .int x2)]) hx hb dX6_reign_40 rfl hl (by decide) rfl (fun ls hl => ?_)
      refine lv_iload_n hx hb dX6_reign_41 rfl (lv_at hl 0 rfl) ?_
      refine lv_bipush (v := (nI 99)) hx hb dX6_reign_42 (bi_99) ?_
      refine lv_icmp_gt (tgt := 51) hx hb dX6_reign_44 (by decide) (fun hc => ?_) (fun hc => ?_)
      · have hf := if_t hf hc
        refine lv_bipush (v := (-4 : Int32)) hx hb dX6_reign_51 (bi_m4) ?_
        have hK9 := K0_of hf hK
        exact hRet (-4 : Int32) _ _ _ _ hK9 dX6_reign_53 hP hD hS
      · have hf := if_f hf hc
        refine lv_iload_n hx hb dX6_reign_47 rfl (lv_at hl 0 rfl) ?_
        refine lv_goto (tgt := 53) hx hb dX6_reign_48 (by decide) ?_
        have hK9 := K0_of hf hK
        exact hRet ((r25 - r34) + (nI 1)) _ _ _ _ hK9 dX6_reign_53 hP hD hS
    · have hf := if_t hf hc
      refine lv_iconst (v := (-1 : Int32)) hx hb dX6_reign_18 (ic_m1) ?_
      have hK9 := K0_of hf hK
      exact hRet (-1 : Int32) _ _ _ _ hK9 dX6_reign_19 hP hD hS
noncomputable def p_X6_areOdds (x0 : Int32) (x1 : Int32) : Option (Int32) :=
  Option.bind (p_X6_isWithin x0 (nI 0) (nI 10)) <| fun r4 =>
  if r4 = 0 then
    (some (nI 0))
  else
    (Option.bind (p_X6_isWithin x1 (nI 0) (nI 8)) <| fun r14 =>
     if r14 = 0 then
       (some (nI 0))
     else
       (some (nI 1)))
set_option maxHeartbeats 4000000 in
set_option maxRecDepth 100000 in
theorem c_X6_areOdds (l : Launch) (G : Gt)  (x0 : Int32) (x1 : Int32) (r : Int32) (hf : p_X6_areOdds x0 x1 = some r) (sz : Nat) : Met l yX6_areOdds wsX6_areOdds ({ frames := 2, cells := 0, slots := 0, locals := 34 }) (Pc0 G sz [.int x0, .int x1] ([] : va_W)) (Qz0 G (va_A ([] : va_W) sz) r ([] : va_W)) 0 0 (va_A ([] : va_W) sz) := by
  refine metP (Qf := fun A => Qz0 G A r ([] : va_W)) cX6_areOdds 2 (some .boolean) (by decide) rfl (Nat.le_of_ble_eq_true rfl) ?_
  intro p e s m below meth c A ls hC hr hlocks hin hE hA hsz hP hD hS hl
  generalize hargs : ([.int x0, .int x1] : List Value).toArray = args at hC ⊢
  obtain ⟨hx, hb, hml, hown, hts⟩ := id hC
  have hT : va_K G.1 vwCl (tyL G) s := hE.1
  have hRet : ∀ (r9 : Int32) (H : Heap) (locs : List Loc) (ls : Array Slot) (pc : Nat) (hK9 : r9 = r) (hn9 : narrow .boolean (.int r9) = .int r9) (hdg : decode cX6_areOdds pc = .ok (.ireturn, 1)), va_P G.1 vwCl ([] : va_W) H → va_D A ([] : va_W) → va_S A s.heap H locs → W p l e ({ frames := 2, cells := 0, slots := 0, locals := 34 }) s m args below meth c H locs 0 0 (MQ below (Qz0 G A r ([] : va_W)) args s 0 0 A) (F0 m pc ls [.int r9]) := by
    intro r9 H locs ls pc hK9 hn9 hdg hP hD hS
    cases hK9
    exact W.zret hx hb hr hn9 (fun t ht hW => ⟨⟨r, (), rfl, ⟨rfl, hn9⟩, by rw [ht]; exact hP, hD⟩, hS.F ht⟩) hS.2.2 hdg hlocks
  generalize MQ below (Qz0 G A r ([] : va_W)) args s 0 0 A = Q at hRet ⊢
  have hl : lv_has ls 2 [(0, .int x0), (1, .int x1)] := hl
  have hK0 : r = r := rfl
  obtain ⟨res, hres, hK⟩ : ∃ res, p_X6_areOdds x0 x1 = some res ∧ res = r := ⟨_, hf, rfl⟩
  clear hf
  have hf := hres
  clear hres
  unfold p_X6_areOdds at hf
  refine lv_iload_n hx hb dX6_areOdds_0 rfl (lv_at hl 0 rfl) ?_
  refine lv_iconst (v := (nI 0)) hx hb dX6_areOdds_1 (ic_0) ?_
  refine lv_bipush (v := (nI 10)) hx hb dX6_areOdds_2 (bi_10) ?_
  obtain ⟨r4, hc4, hf⟩ := bd_e hf
  refine cl_z_same (Wd := ([] : va_W)) (W' := ([] : va_W)) (va_runS (As := [.int x0, .int (nI 0), .int (nI 10)]) (rest := []) hC (c_X6_isWithin l G x0 (nI 0) (nI 10) r4 hc4 _) (va_cwS 3 hts gX6_areOdds_X6_isWithin rfl rfl rfl (by decide +kernel) ⟨Nat.le_of_ble_eq_true rfl, Nat.le_of_ble_eq_true rfl⟩) ⟨Pc0_blind, fun U hU hW => Pc0_at hE hP hD hU hW⟩ rfl rfl hl.1 rfl (lv_room (Nat.le_of_ble_eq_true rfl)) dX6_areOdds_4 ⟨Nat.zero_le _, Nat.zero_le _⟩) hS hA hD (fun H locs hn4 hP hD hS => ?_)
  refine lv_if_eq (tgt := 24) hx hb dX6_areOdds_7 (by decide) (fun hc => ?_) (fun hc => ?_)
  · have hf := if_t hf hc
    refine lv_iconst (v := (nI 0)) hx hb dX6_areOdds_24 (ic_0) ?_
    have hK9 := K0_of hf hK
    exact hRet (nI 0) _ _ _ _ hK9 rfl dX6_areOdds_25 hP hD hS
  · have hf := if_f hf hc
    refine lv_iload_n hx hb dX6_areOdds_10 rfl (lv_at hl 1 rfl) ?_
    refine lv_iconst (v := (nI 0)) hx hb dX6_areOdds_11 (ic_0) ?_
    refine lv_bipush (v := (nI 8)) hx hb dX6_areOdds_12 (bi_8) ?_
    obtain ⟨r14, hc14, hf⟩ := bd_e hf
    refine cl_z_same (Wd := ([] : va_W)) (W' := ([] : va_W)) (va_runS (As := [.int x1, .int (nI 0), .int (nI 8)]) (rest := []) hC (c_X6_isWithin l G x1 (nI 0) (nI 8) r14 hc14 _) (va_cwS 3 hts gX6_areOdds_X6_isWithin rfl rfl rfl (by decide +kernel) ⟨Nat.le_of_ble_eq_true rfl, Nat.le_of_ble_eq_true rfl⟩) ⟨Pc0_blind, fun U hU hW => Pc0_at hE hP hD hU hW⟩ rfl rfl hl.1 rfl (lv_room (Nat.le_of_ble_eq_true rfl)) dX6_areOdds_14 ⟨Nat.zero_le _, Nat.zero_le _⟩) hS hA hD (fun H locs hn14 hP hD hS => ?_)
    refine lv_if_eq (tgt := 24) hx hb dX6_areOdds_17 (by decide) (fun hc => ?_) (fun hc => ?_)
    · have hf := if_t hf hc
      refine lv_iconst (v := (nI 0)) hx hb dX6_areOdds_24 (ic_0) ?_
      have hK9 := K0_of hf hK
      exact hRet (nI 0) _ _ _ _ hK9 rfl dX6_areOdds_25 hP hD hS
    · have hf := if_f hf hc
      refine lv_iconst (v := (nI 1)) hx hb dX6_areOdds_20 (ic_1) ?_
      refine lv_goto (tgt := 25) hx hb dX6_areOdds_21 (by decide) ?_
      have hK9 := K0_of hf hK
      exact hRet (nI 1) _ _ _ _ hK9 rfl dX6_areOdds_25 hP hD hS
noncomputable def p_X6_raised_L5 (x0 : Int32) (x1 : Int32) (z : Int64 × Int32) : Option ((Int64 × Int32) ⊕ Int64) :=
  match z with
  | (x2, x4) =>
    if x1 ≤ x4 then
      (some (Sum.inr x2))
    else
      (some (Sum.inl ((x2 * ((x0).toInt64)), (x4 + nI 1))))
noncomputable def p_X6_raised (x0 : Int32) (x1 : Int32) : Option (Int64) :=
  Option.bind (lp (p_X6_raised_L5 x0 x1) ((lN 1), (nI 0))) <| fun y2_5 =>
  some y2_5
set_option maxHeartbeats 4000000 in
set_option maxRecDepth 100000 in
theorem c_X6_raised (l : Launch) (G : Gt)  (x0 : Int32) (x1 : Int32) (r : Int64) (hf : p_X6_raised x0 x1 = some r) (sz : Nat) : Met l yX6_raised wsX6_raised ({ frames := 1, cells := 0, slots := 0, locals := 12 }) (Pc0 G sz [.int x0, .int x1] ([] : va_W)) (Ql0 G (va_A ([] : va_W) sz) r ([] : va_W)) 0 0 (va_A ([] : va_W) sz) := by
  refine metP (Qf := fun A => Ql0 G A r ([] : va_W)) cX6_raised 5 (some .long) (by decide) rfl (Nat.le_of_ble_eq_true rfl) ?_
  intro p e s m below meth c A ls hC hr hlocks hin hE hA hsz hP hD hS hl
  generalize hargs : ([.int x0, .int x1] : List Value).toArray = args at hC ⊢
  obtain ⟨hx, hb, hml, hown, hts⟩ := id hC
  have hT : va_K G.1 vwCl (tyL G) s := hE.1
  have hRet : ∀ (r9 : Int64) (H : Heap) (locs : List Loc) (ls : Array Slot) (pc : Nat) (hK9 : r9 = r) (hdg : decode cX6_raised pc = .ok (.lreturn, 1)), va_P G.1 vwCl ([] : va_W) H → va_D A ([] : va_W) → va_S A s.heap H locs → W p l e ({ frames := 1, cells := 0, slots := 0, locals := 12 }) s m args below meth c H locs 0 0 (MQ below (Ql0 G A r ([] : va_W)) args s 0 0 A) (F0 m pc ls [.long r9]) := by
    intro r9 H locs ls pc hK9 hdg hP hD hS
    cases hK9
    exact W.lret hx hb hr (fun t ht hW => ⟨⟨r, (), rfl, rfl, by rw [ht]; exact hP, hD⟩, hS.F ht⟩) hS.2.2 hdg hlocks
  generalize MQ below (Ql0 G A r ([] : va_W)) args s 0 0 A = Q at hRet ⊢
  have hl : lv_has ls 5 [(0, .int x0), (1, .int x1)] := hl
  have hK0 : r = r := rfl
  obtain ⟨res, hres, hK⟩ : ∃ res, p_X6_raised x0 x1 = some res ∧ res = r := ⟨_, hf, rfl⟩
  clear hf
  have hf := hres
  clear hres
  unfold p_X6_raised at hf
  refine lv_lconst (v := (lN 1)) hx hb dX6_raised_0 rfl ?_
  refine lv_lstore_n (lv' := [(2, .long (lN 1)), (0, .int x0), (1, .int x1)]) hx hb dX6_raised_1 rfl hl (by decide) rfl (fun ls hl => ?_)
  refine lv_iconst (v := (nI 0)) hx hb dX6_raised_2 (ic_0) ?_
  refine lv_istore (lv' := [(4, .int (nI 0)), (2, .long (lN 1)), (0, .int x0), (1, .int x1)]) hx hb dX6_raised_3 hl (by decide) rfl (fun ls hl => ?_)
  obtain ⟨y2_5, hlp, hf⟩ := bd_e hf
  refine lp_W1 (p_X6_raised_L5 x0 x1) (fun z => match z with | (x2, x4) => ∀ (H : Heap) (locs : List Loc) (ls : Array Slot), va_P G.1 vwCl ([] : va_W) H → va_D A ([] : va_W) → va_S A s.heap H locs → lv_has ls 5 [(0, .int x0), (1, .int x1), (2, .long x2), (4, .int x4)] → W p l e ({ frames := 1, cells := 0, slots := 0, locals := 12 }) s m args below meth c H locs 0 0 Q (F0 m 5 ls [])) (fun (y2_5 : Int64) => ∀ (H : Heap) (locs : List Loc) (ls : Array Slot), va_P G.1 vwCl ([] : va_W) H → va_D A ([] : va_W) → va_S A s.heap H locs → lv_has ls 5 [(2, .long y2_5)] → W p l e ({ frames := 1, cells := 0, slots := 0, locals := 12 }) s m args below meth c H locs 0 0 Q (F0 m 22 ls [])) ?_ hlp ?_ _ _ _ hP hD hS (lv_sub hl [2, 3, 1, 0] rfl)
  · clear hlp hf hK hP hD hS hl
    intro K5 hW5 hX5 
    rintro ⟨x2, x4⟩ res hf hK H locs ls hP hD hS hl
    unfold p_X6_raised_L5 at hf
    dsimp only at hf
    refine lv_iload hx hb dX6_raised_5 (lv_at hl 3 rfl) ?_
    refine lv_iload_n hx hb dX6_raised_7 rfl (lv_at hl 1 rfl) ?_
    refine lv_icmp_ge (tgt := 22) hx hb dX6_raised_8 (by decide) (fun hc => ?_) (fun hc => ?_)
    · have hf := if_t hf hc
      have hK9 := K_of hf hK
      have hK9 := hX5 _ hK9
      exact hK9 _ _ _ hP hD hS (lv_sub hl [2] rfl)
    · have hf := if_f hf hc
      refine lv_lload_n hx hb dX6_raised_11 rfl (lv_at hl 2 rfl) ?_
      refine lv_iload_n hx hb dX6_raised_12 rfl (lv_at hl 0 rfl) ?_
      refine lv_i2l (v := ((x0).toInt64)) hx hb dX6_raised_13 rfl ?_
      refine lv_lmul hx hb dX6_raised_14 ?_
      refine lv_lstore_n (lv' := [(2, .long (x2 * ((x0).toInt64))), (0, .int x0), (1, .int x1), (4, .int x4)]) hx hb dX6_raised_15 rfl hl (by decide) rfl (fun ls hl => ?_)
      refine lv_iinc (v := (x4 + nI 1)) (lv' := [(4, .int (x4 + nI 1)), (2, .long (x2 * ((x0).toInt64))), (0, .int x0), (1, .int x1)]) hx hb dX6_raised_16 hl (k := 3) rfl (ii_x 1 _) (by decide) rfl (fun ls hl => ?_)
      refine lv_goto (tgt := 5) hx hb dX6_raised_19 (by decide) ?_
      have hK9 := K_of hf hK
      have hK9 := hW5 _ hK9
      exact hK9 _ _ _ hP hD hS (lv_sub hl [2, 3, 1, 0] rfl)
  · try dsimp only at hf
    show ∀ (H : Heap) (locs : List Loc) (ls : Array Slot), va_P G.1 vwCl ([] : va_W) H → va_D A ([] : va_W) → va_S A s.heap H locs → lv_has ls 5 [(2, .long y2_5)] → W p l e ({ frames := 1, cells := 0, slots := 0, locals := 12 }) s m args below meth c H locs 0 0 Q (F0 m 22 ls [])
    intro H locs ls hP hD hS hl
    refine lv_lload_n hx hb dX6_raised_22 rfl (lv_at hl 0 rfl) ?_
    have hK9 := K0_of hf hK
    exact hRet y2_5 _ _ _ _ hK9 dX6_raised_23 hP hD hS
noncomputable def p_X6_waysToMoult_L5 (x0 : Int32) (x1 : Int32) (x2 : Int32) (z : Int64 × Int32) : Option ((Int64 × Int32) ⊕ Int64) :=
  match z with
  | (x3, x5) =>
    if x2 < x5 then
      (some (Sum.inr x3))
    else
      (gd (nzL ((x5).toInt64)) <|
       some (Sum.inl (((x3 * (((x1 - x2) + x5).toInt64)) / ((x5).toInt64)), (x5 + nI 1))))
noncomputable def p_X6_waysToMoult (x0 : Int32) (x1 : Int32) (x2 : Int32) : Option (Int64) :=
  Option.bind (lp (p_X6_waysToMoult_L5 x0 x1 x2) ((lN 1), (nI 1))) <| fun y3_5 =>
  Option.bind (p_X6_raised x0 x2) <| fun r34 =>
  Option.bind (p_X6_raised ((nI 10) - x0) (x1 - x2)) <| fun r45 =>
  some ((y3_5 * r34) * r45)
set_option maxHeartbeats 4000000 in
set_option maxRecDepth 100000 in
theorem c_X6_waysToMoult (l : Launch) (G : Gt)  (x0 : Int32) (x1 : Int32) (x2 : Int32) (r : Int64) (hf : p_X6_waysToMoult x0 x1 x2 = some r) (sz : Nat) : Met l yX6_waysToMoult wsX6_waysToMoult ({ frames := 2, cells := 0, slots := 0, locals := 36 }) (Pc0 G sz [.int x0, .int x1, .int x2] ([] : va_W)) (Ql0 G (va_A ([] : va_W) sz) r ([] : va_W)) 0 0 (va_A ([] : va_W) sz) := by
  refine metP (Qf := fun A => Ql0 G A r ([] : va_W)) cX6_waysToMoult 6 (some .long) (by decide) rfl (Nat.le_of_ble_eq_true rfl) ?_
  intro p e s m below meth c A ls hC hr hlocks hin hE hA hsz hP hD hS hl
  generalize hargs : ([.int x0, .int x1, .int x2] : List Value).toArray = args at hC ⊢
  obtain ⟨hx, hb, hml, hown, hts⟩ := id hC
  have hT : va_K G.1 vwCl (tyL G) s := hE.1
  have hRet : ∀ (r9 : Int64) (H : Heap) (locs : List Loc) (ls : Array Slot) (pc : Nat) (hK9 : r9 = r) (hdg : decode cX6_waysToMoult pc = .ok (.lreturn, 1)), va_P G.1 vwCl ([] : va_W) H → va_D A ([] : va_W) → va_S A s.heap H locs → W p l e ({ frames := 2, cells := 0, slots := 0, locals := 36 }) s m args below meth c H locs 0 0 (MQ below (Ql0 G A r ([] : va_W)) args s 0 0 A) (F0 m pc ls [.long r9]) := by
    intro r9 H locs ls pc hK9 hdg hP hD hS
    cases hK9
    exact W.lret hx hb hr (fun t ht hW => ⟨⟨r, (), rfl, rfl, by rw [ht]; exact hP, hD⟩, hS.F ht⟩) hS.2.2 hdg hlocks
  generalize MQ below (Ql0 G A r ([] : va_W)) args s 0 0 A = Q at hRet ⊢
  have hl : lv_has ls 6 [(0, .int x0), (1, .int x1), (2, .int x2)] := hl
  have hK0 : r = r := rfl
  obtain ⟨res, hres, hK⟩ : ∃ res, p_X6_waysToMoult x0 x1 x2 = some res ∧ res = r := ⟨_, hf, rfl⟩
  clear hf
  have hf := hres
  clear hres
  unfold p_X6_waysToMoult at hf
  refine lv_lconst (v := (lN 1)) hx hb dX6_waysToMoult_0 rfl ?_
  refine lv_lstore_n (lv' := [(3, .long (lN 1)), (0, .int x0), (1, .int x1), (2, .int x2)]) hx hb dX6_waysToMoult_1 rfl hl (by decide) rfl (fun ls hl => ?_)
  refine lv_iconst (v := (nI 1)) hx hb dX6_waysToMoult_2 (ic_1) ?_
  refine lv_istore (lv' := [(5, .int (nI 1)), (3, .long (lN 1)), (0, .int x0), (1, .int x1), (2, .int x2)]) hx hb dX6_waysToMoult_3 hl (by decide) rfl (fun ls hl => ?_)
  obtain ⟨y3_5, hlp, hf⟩ := bd_e hf
  refine lp_W1 (p_X6_waysToMoult_L5 x0 x1 x2) (fun z => match z with | (x3, x5) => ∀ (H : Heap) (locs : List Loc) (ls : Array Slot), va_P G.1 vwCl ([] : va_W) H → va_D A ([] : va_W) → va_S A s.heap H locs → lv_has ls 6 [(0, .int x0), (1, .int x1), (2, .int x2), (3, .long x3), (5, .int x5)] → W p l e ({ frames := 2, cells := 0, slots := 0, locals := 36 }) s m args below meth c H locs 0 0 Q (F0 m 5 ls [])) (fun (y3_5 : Int64) => ∀ (H : Heap) (locs : List Loc) (ls : Array Slot), va_P G.1 vwCl ([] : va_W) H → va_D A ([] : va_W) → va_S A s.heap H locs → lv_has ls 6 [(0, .int x0), (1, .int x1), (2, .int x2), (3, .long y3_5)] → W p l e ({ frames := 2, cells := 0, slots := 0, locals := 36 }) s m args below meth c H locs 0 0 Q (F0 m 31 ls [])) ?_ hlp ?_ _ _ _ hP hD hS (lv_sub hl [2, 3, 4, 1, 0] rfl)
  · clear hlp hf hK hP hD hS hl
    intro K5 hW5 hX5 
    rintro ⟨x3, x5⟩ res hf hK H locs ls hP hD hS hl
    unfold p_X6_waysToMoult_L5 at hf
    dsimp only at hf
    refine lv_iload hx hb dX6_waysToMoult_5 (lv_at hl 4 rfl) ?_
    refine lv_iload_n hx hb dX6_waysToMoult_7 rfl (lv_at hl 2 rfl) ?_
    refine lv_icmp_gt (tgt := 31) hx hb dX6_waysToMoult_8 (by decide) (fun hc => ?_) (fun hc => ?_)
    · have hf := if_t hf hc
      have hK9 := K_of hf hK
      have hK9 := hX5 _ hK9
      exact hK9 _ _ _ hP hD hS (lv_sub hl [0, 1, 2, 3] rfl)
    · have hf := if_f hf hc
      refine lv_lload_n hx hb dX6_waysToMoult_11 rfl (lv_at hl 3 rfl) ?_
      refine lv_iload_n hx hb dX6_waysToMoult_12 rfl (lv_at hl 1 rfl) ?_
      refine lv_iload_n hx hb dX6_waysToMoult_13 rfl (lv_at hl 2 rfl) ?_
      refine lv_isub hx hb dX6_waysToMoult_14 ?_
      refine lv_iload hx hb dX6_waysToMoult_15 (lv_at hl 4 rfl) ?_
      refine lv_iadd hx hb dX6_waysToMoult_17 ?_
      refine lv_i2l (v := (((x1 - x2) + x5).toInt64)) hx hb dX6_waysToMoult_18 rfl ?_
      refine lv_lmul hx hb dX6_waysToMoult_19 ?_
      refine lv_iload hx hb dX6_waysToMoult_20 (lv_at hl 4 rfl) ?_
      refine lv_i2l (v := ((x5).toInt64)) hx hb dX6_waysToMoult_22 rfl ?_
      obtain ⟨hg, hf⟩ := gd_e hf
      refine lv_ldiv hx hb dX6_waysToMoult_23 (nzL_e hg) ?_
      refine lv_lstore_n (lv' := [(3, .long ((x3 * (((x1 - x2) + x5).toInt64)) / ((x5).toInt64))), (0, .int x0), (1, .int x1), (2, .int x2), (5, .int x5)]) hx hb dX6_waysToMoult_24 rfl hl (by decide) rfl (fun ls hl => ?_)
      refine lv_iinc (v := (x5 + nI 1)) (lv' := [(5, .int (x5 + nI 1)), (3, .long ((x3 * (((x1 - x2) + x5).toInt64)) / ((x5).toInt64))), (0, .int x0), (1, .int x1), (2, .int x2)]) hx hb dX6_waysToMoult_25 hl (k := 4) rfl (ii_x 1 _) (by decide) rfl (fun ls hl => ?_)
      refine lv_goto (tgt := 5) hx hb dX6_waysToMoult_28 (by decide) ?_
      have hK9 := K_of hf hK
      have hK9 := hW5 _ hK9
      exact hK9 _ _ _ hP hD hS (lv_sub hl [2, 3, 4, 1, 0] rfl)
  · try dsimp only at hf
    show ∀ (H : Heap) (locs : List Loc) (ls : Array Slot), va_P G.1 vwCl ([] : va_W) H → va_D A ([] : va_W) → va_S A s.heap H locs → lv_has ls 6 [(0, .int x0), (1, .int x1), (2, .int x2), (3, .long y3_5)] → W p l e ({ frames := 2, cells := 0, slots := 0, locals := 36 }) s m args below meth c H locs 0 0 Q (F0 m 31 ls [])
    intro H locs ls hP hD hS hl
    refine lv_lload_n hx hb dX6_waysToMoult_31 rfl (lv_at hl 3 rfl) ?_
    refine lv_iload_n hx hb dX6_waysToMoult_32 rfl (lv_at hl 0 rfl) ?_
    refine lv_iload_n hx hb dX6_waysToMoult_33 rfl (lv_at hl 2 rfl) ?_
    obtain ⟨r34, hc34, hf⟩ := bd_e hf
    refine cl_l_same (Wd := ([] : va_W)) (W' := ([] : va_W)) (va_runS (As := [.int x0, .int x2]) (rest := [.long y3_5]) hC (c_X6_raised l G x0 x2 r34 hc34 _) (va_cwS 2 hts gX6_waysToMoult_X6_raised rfl rfl rfl (by decide +kernel) ⟨Nat.le_of_ble_eq_true rfl, Nat.le_of_ble_eq_true rfl⟩) ⟨Pc0_blind, fun U hU hW => Pc0_at hE hP hD hU hW⟩ rfl rfl hl.1 rfl (lv_room (Nat.le_of_ble_eq_true rfl)) dX6_waysToMoult_34 ⟨Nat.zero_le _, Nat.zero_le _⟩) hS hA hD (fun H locs hP hD hS => ?_)
    refine lv_lmul hx hb dX6_waysToMoult_37 ?_
    refine lv_bipush (v := (nI 10)) hx hb dX6_waysToMoult_38 (bi_10) ?_
    refine lv_iload_n hx hb dX6_waysToMoult_40 rfl (lv_at hl 0 rfl) ?_
    refine lv_isub hx hb dX6_waysToMoult_41 ?_
    refine lv_iload_n hx hb dX6_waysToMoult_42 rfl (lv_at hl 1 rfl) ?_
    refine lv_iload_n hx hb dX6_waysToMoult_43 rfl (lv_at hl 2 rfl) ?_
    refine lv_isub hx hb dX6_waysToMoult_44 ?_
    obtain ⟨r45, hc45, hf⟩ := bd_e hf
    refine cl_l_same (Wd := ([] : va_W)) (W' := ([] : va_W)) (va_runS (As := [.int ((nI 10) - x0), .int (x1 - x2)]) (rest := [.long (y3_5 * r34)]) hC (c_X6_raised l G ((nI 10) - x0) (x1 - x2) r45 hc45 _) (va_cwS 2 hts gX6_waysToMoult_X6_raised rfl rfl rfl (by decide +kernel) ⟨Nat.le_of_ble_eq_true rfl, Nat.le_of_ble_eq_true rfl⟩) ⟨Pc0_blind, fun U hU hW => Pc0_at hE hP hD hU hW⟩ rfl rfl hl.1 rfl (lv_room (Nat.le_of_ble_eq_true rfl)) dX6_waysToMoult_45 ⟨Nat.zero_le _, Nat.zero_le _⟩) hS hA hD (fun H locs hP hD hS => ?_)
    refine lv_lmul hx hb dX6_waysToMoult_48 ?_
    have hK9 := K0_of hf hK
    exact hRet ((y3_5 * r34) * r45) _ _ _ _ hK9 dX6_waysToMoult_49 hP hD hS
noncomputable def p_X6_luck_B37 (f : Mem) (fnow : Mem) (ftrial : Mem) : Option (Int64 × Mem) :=
  some ((-1 : Int64), ftrial)
noncomputable def p_X6_luck_B90 (f : Mem) (fnow : Mem) (ftrial_ : Mem) (x1 : Int32) (x2 : Int32) (x3 : Int32) (x4 : Int32) (x5 : Int32) (x6 : Int64) (x8 : Int32) : Option ((Int64 × Int32 × Mem) ⊕ (Int64 × Mem)) :=
  Option.bind (p_X0_passWeek ftrial_) <| fun (r94, ftrial_94) =>
  some (Sum.inl (x6, (x8 + nI 1), ftrial_94))
noncomputable def p_X6_luck_L58 (f : Mem) (fnow : Mem) (x1 : Int32) (x2 : Int32) (x3 : Int32) (x4 : Int32) (x5 : Int32) (z : Int64 × Int32 × Mem) : Option ((Int64 × Int32 × Mem) ⊕ (Int64 × Mem)) :=
  match z with
  | (x6, x8, ftrial_) =>
    if x4 < x8 then
      (some (Sum.inr (x6, ftrial_)))
    else
      (Option.bind (p_X0_eggOwner ftrial_ x2) <| fun r70 =>
       if r70 = x3 then
         (Option.bind (p_X6_waysToMoult x1 x4 x8) <| fun r84 =>
          p_X6_luck_B90 f fnow ftrial_ x1 x2 x3 x4 x5 (x6 + r84) x8)
       else
         (p_X6_luck_B90 f fnow ftrial_ x1 x2 x3 x4 x5 x6 x8))
noncomputable def p_X6_luck (f : Mem) (fnow : Mem) (ftrial : Mem) (x1 : Int32) (x2 : Int32) (x3 : Int32) (x4 : Int32) (x5 : Int32) : Option (Int64 × Mem) :=
  Option.bind (p_X6_areOdds x1 x4) <| fun r3 =>
  if r3 = 0 then
    (p_X6_luck_B37 f fnow ftrial)
  else
    (Option.bind (p_X0_hasGoose fnow x2) <| fun r14 =>
     if r14 = 0 then
       (p_X6_luck_B37 f fnow ftrial)
     else
       (Option.bind (p_X6_isOwner x3) <| fun r21 =>
        if r21 = 0 then
          (p_X6_luck_B37 f fnow ftrial)
        else
          (Option.bind (p_X6_isWithin x5 (nI 0) (nI 1)) <| fun r31 =>
           if r31 = 0 then
             (p_X6_luck_B37 f fnow ftrial)
           else
             (Option.bind (p_X0_copyFrom ftrial fnow) <| fun ftrial_49 =>
              Option.bind (lp (p_X6_luck_L58 f fnow x1 x2 x3 x4 x5) ((lN 0), (nI 0), ftrial_49)) <| fun (y6_58, ftrial_58) =>
              Option.bind (p_X6_raised (nI 10) x4) <| fun r110 =>
              Option.bind (p_X6_partOfFraction y6_58 r110 x5) <| fun r115 =>
              some (r115, ftrial_58)))))
set_option maxHeartbeats 4000000 in
set_option maxRecDepth 100000 in
theorem c_X6_luck (l : Launch) (G : Gt) (ad : Nat → Nat) (ado : Nat → Nat → Nat) (f : Mem) (fnow : Mem) (ftrial : Mem) (x1 : Int32) (x2 : Int32) (x3 : Int32) (x4 : Int32) (x5 : Int32) (r : Int64) (ftrialz : Mem) (hf : p_X6_luck f fnow ftrial x1 x2 x3 x4 x5 = some (r, ftrialz)) (sz : Nat) : Met l yX6_luck wsX6_luck ({ frames := 4, cells := 0, slots := 0, locals := 110 }) (Pc0 G sz [.ref (ad 0), .int x1, .int x2, .int x3, .int x4, .int x5] (wX6 G ad ado f ++ (wX0 G (ado 1) fnow ++ (wX0 G (ado 2) ftrial)))) (Ql0 G (va_A (wX6 G ad ado f ++ (wX0 G (ado 1) fnow ++ (wX0 G (ado 2) ftrial))) sz) r (wX6 G ad ado f ++ (wX0 G (ado 1) fnow ++ (wX0 G (ado 2) ftrialz)))) 0 0 (va_A (wX6 G ad ado f ++ (wX0 G (ado 1) fnow ++ (wX0 G (ado 2) ftrial))) sz) := by
  refine metP (Qf := fun A => Ql0 G A r (wX6 G ad ado f ++ (wX0 G (ado 1) fnow ++ (wX0 G (ado 2) ftrialz)))) cX6_luck 9 (some .long) (by decide) rfl (Nat.le_of_ble_eq_true rfl) ?_
  intro p e s m below meth c A ls hC hr hlocks hin hE hA hsz hP hD hS hl
  generalize hargs : ([.ref (ad 0), .int x1, .int x2, .int x3, .int x4, .int x5] : List Value).toArray = args at hC ⊢
  obtain ⟨hx, hb, hml, hown, hts⟩ := id hC
  have hT : va_K G.1 vwCl (tyL G) s := hE.1
  have hRet : ∀ (r9 : Int64) (ftrial9 : Mem) (H : Heap) (locs : List Loc) (ls : Array Slot) (pc : Nat) (hK9 : (r9, ftrial9) = (r, ftrialz)) (hdg : decode cX6_luck pc = .ok (.lreturn, 1)), va_P G.1 vwCl (wX6 G ad ado f ++ (wX0 G (ado 1) fnow ++ (wX0 G (ado 2) ftrial9))) H → va_D A (wX6 G ad ado f ++ (wX0 G (ado 1) fnow ++ (wX0 G (ado 2) ftrial9))) → va_S A s.heap H locs → W p l e ({ frames := 4, cells := 0, slots := 0, locals := 110 }) s m args below meth c H locs 0 0 (MQ below (Ql0 G A r (wX6 G ad ado f ++ (wX0 G (ado 1) fnow ++ (wX0 G (ado 2) ftrialz)))) args s 0 0 A) (F0 m pc ls [.long r9]) := by
    intro r9 ftrial9 H locs ls pc hK9 hdg hP hD hS
    cases hK9
    exact W.lret hx hb hr (fun t ht hW => ⟨⟨r, (), rfl, rfl, by rw [ht]; exact hP, hD⟩, hS.F ht⟩) hS.2.2 hdg hlocks
  generalize MQ below (Ql0 G A r (wX6 G ad ado f ++ (wX0 G (ado 1) fnow ++ (wX0 G (ado 2) ftrialz)))) args s 0 0 A = Q at hRet ⊢
  have lk12 := hts (.fieldLink RX6 12 "FeatherShares" "now" "LFeatherShares$Flock;") (by decide +kernel)
  have inX6 : ∀ w ∈ u_ws RX6 TX6 11, w ∈ wsX6_luck := by decide +kernel
  have lk16 := hts (.fieldLink RX6 16 "FeatherShares" "trial" "LFeatherShares$Flock;") (by decide +kernel)
  have hl : lv_has ls 9 [(0, .ref (ad 0)), (1, .int x1), (2, .int x2), (3, .int x3), (4, .int x4), (5, .int x5)] := hl
  have hK0 : (r, ftrialz) = (r, ftrialz) := rfl
  have hB37 : ∀ (ftrial : Mem) (res : Int64 × Mem) (hf : p_X6_luck_B37 f fnow ftrial = some res) (hK : res = (r, ftrialz)), ∀ (H : Heap) (locs : List Loc) (ls : Array Slot), va_P G.1 vwCl (wX6 G ad ado f ++ (wX0 G (ado 1) fnow ++ (wX0 G (ado 2) ftrial))) H → va_D A (wX6 G ad ado f ++ (wX0 G (ado 1) fnow ++ (wX0 G (ado 2) ftrial))) → va_S A s.heap H locs → lv_has ls 9 [] → W p l e ({ frames := 4, cells := 0, slots := 0, locals := 110 }) s m args below meth c H locs 0 0 Q (F0 m 37 ls []) := by
    intro ftrial res hf hK H locs ls hP hD hS hl
    unfold p_X6_luck_B37 at hf
    refine W.ldc2 (v := (-1 : Int64)) hx hb hown (hts (.constantLong RX6 241 (-1 : Int64)) (by decide +kernel)) rfl dX6_luck_37 ?_
    refine W.eq (g2 := F0 m 40 ls [.long (-1 : Int64)]) rfl ?_
    have hK9 := K0_of hf hK
    exact hRet (-1 : Int64) ftrial _ _ _ _ hK9 dX6_luck_40 hP hD hS
  obtain ⟨res, hres, hK⟩ : ∃ res, p_X6_luck f fnow ftrial x1 x2 x3 x4 x5 = some res ∧ res = (r, ftrialz) := ⟨_, hf, rfl⟩
  clear hf
  have hf := hres
  clear hres
  unfold p_X6_luck at hf
  refine lv_iload_n hx hb dX6_luck_0 rfl (lv_at hl 1 rfl) ?_
  refine lv_iload hx hb dX6_luck_1 (lv_at hl 4 rfl) ?_
  obtain ⟨r3, hc3, hf⟩ := bd_e hf
  refine cl_z_ro (Wd := (wX6 G ad ado f ++ (wX0 G (ado 1) fnow ++ (wX0 G (ado 2) ftrial)))) (Wc := ([] : va_W)) [] rfl (va_runS (As := [.int x1, .int x4]) (rest := []) hC (c_X6_areOdds l G x1 x4 r3 hc3 _) (va_cwS 2 hts gX6_luck_X6_areOdds rfl rfl rfl (by decide +kernel) ⟨Nat.le_of_ble_eq_true rfl, Nat.le_of_ble_eq_true rfl⟩) ⟨Pc0_blind, fun U hU hW => Pc0_at (Wd := ([] : va_W)) hE (hP.subm [] rfl) (hD.sub [] (by decide) rfl) hU hW⟩ rfl rfl hl.1 rfl (lv_room (Nat.le_of_ble_eq_true rfl)) dX6_luck_3 ⟨Nat.zero_le _, Nat.zero_le _⟩) hS hA hP hD (fun H locs hn3 hP hD hS => ?_)
  refine lv_if_eq (tgt := 37) hx hb dX6_luck_6 (by decide) (fun hc => ?_) (fun hc => ?_)
  · have hf := if_t hf hc
    exact hB37 ftrial _ hf hK _ _ _ hP hD hS (lv_sub hl [] rfl)
  · have hf := if_f hf hc
    refine lv_aload_n hx hb dX6_luck_9 rfl (lv_at hl 0 rfl) ?_
    refine va_get (C := RX6) (T := TX6) (N := 11) (ci := 6) (v := .ref ((ado 1) 0)) hx hb hts inX6 hown hT hP 0 rfl rfl 0 (Nat.le_of_ble_eq_true rfl) lk12 (fun _ h => h) rfl dX6_luck_10 ?_
    refine lv_iload_n hx hb dX6_luck_13 rfl (lv_at hl 2 rfl) ?_
    obtain ⟨r14, hc14, hf⟩ := bd_e hf
    refine cl_z_ro (Wd := (wX6 G ad ado f ++ (wX0 G (ado 1) fnow ++ (wX0 G (ado 2) ftrial)))) (Wc := (wX0 G (ado 1) fnow)) [4, 5, 6, 7, 8, 9, 10, 11, 12, 13, 14] rfl (va_runVN (As := [.int x2]) (rest := []) hC (c_X0_hasGoose l G (ado 1) fnow x2 r14 hc14 _) ⟨va_cnB 1 hts gX6_luck_X0_hasGoose_n126 rfl rfl rfl (hE.2.2 (RX6, 126, yX0_hasGoose, "FeatherShares") (List.mem_of_getElem? (i := 10) rfl)) (hts (.initialized RX0) (by decide +kernel)) (by decide +kernel) ⟨Nat.le_of_ble_eq_true rfl, Nat.le_of_ble_eq_true rfl⟩, hts (.instanceMethod yX0_hasGoose) (by decide +kernel), hts (.selects RX0 yX0_hasGoose yX0_hasGoose) (by decide +kernel)⟩ ⟨Pc0_blind, va_recv hT hP (q0 := 4) (ci := 0) rfl rfl, fun U hU hW => Pc0_at (Wd := (wX0 G (ado 1) fnow)) hE (hP.subm [4, 5, 6, 7, 8, 9, 10, 11, 12, 13, 14] rfl) (hD.sub [4, 5, 6, 7, 8, 9, 10, 11, 12, 13, 14] (by decide) rfl) hU hW⟩ rfl rfl hl.1 rfl (lv_room (Nat.le_of_ble_eq_true rfl)) dX6_luck_14 ⟨Nat.zero_le _, Nat.zero_le _⟩) hS hA hP hD (fun H locs hn14 hP hD hS => ?_)
    refine lv_if_eq (tgt := 37) hx hb dX6_luck_17 (by decide) (fun hc => ?_) (fun hc => ?_)
    · have hf := if_t hf hc
      exact hB37 ftrial _ hf hK _ _ _ hP hD hS (lv_sub hl [] rfl)
    · have hf := if_f hf hc
      refine lv_iload_n hx hb dX6_luck_20 rfl (lv_at hl 3 rfl) ?_
      obtain ⟨r21, hc21, hf⟩ := bd_e hf
      refine cl_z_ro (Wd := (wX6 G ad ado f ++ (wX0 G (ado 1) fnow ++ (wX0 G (ado 2) ftrial)))) (Wc := ([] : va_W)) [] rfl (va_runS (As := [.int x3]) (rest := []) hC (c_X6_isOwner l G x3 r21 hc21 _) (va_cwS 1 hts gX6_luck_X6_isOwner rfl rfl rfl (by decide +kernel) ⟨Nat.le_of_ble_eq_true rfl, Nat.le_of_ble_eq_true rfl⟩) ⟨Pc0_blind, fun U hU hW => Pc0_at (Wd := ([] : va_W)) hE (hP.subm [] rfl) (hD.sub [] (by decide) rfl) hU hW⟩ rfl rfl hl.1 rfl (lv_room (Nat.le_of_ble_eq_true rfl)) dX6_luck_21 ⟨Nat.zero_le _, Nat.zero_le _⟩) hS hA hP hD (fun H locs hn21 hP hD hS => ?_)
      refine lv_if_eq (tgt := 37) hx hb dX6_luck_24 (by decide) (fun hc => ?_) (fun hc => ?_)
      · have hf := if_t hf hc
        exact hB37 ftrial _ hf hK _ _ _ hP hD hS (lv_sub hl [] rfl)
      · have hf := if_f hf hc
        refine lv_iload hx hb dX6_luck_27 (lv_at hl 5 rfl) ?_
        refine lv_iconst (v := (nI 0)) hx hb dX6_luck_29 (ic_0) ?_
        refine lv_iconst (v := (nI 1)) hx hb dX6_luck_30 (ic_1) ?_
        obtain ⟨r31, hc31, hf⟩ := bd_e hf
        refine cl_z_ro (Wd := (wX6 G ad ado f ++ (wX0 G (ado 1) fnow ++ (wX0 G (ado 2) ftrial)))) (Wc := ([] : va_W)) [] rfl (va_runS (As := [.int x5, .int (nI 0), .int (nI 1)]) (rest := []) hC (c_X6_isWithin l G x5 (nI 0) (nI 1) r31 hc31 _) (va_cwS 3 hts gX6_luck_X6_isWithin rfl rfl rfl (by decide +kernel) ⟨Nat.le_of_ble_eq_true rfl, Nat.le_of_ble_eq_true rfl⟩) ⟨Pc0_blind, fun U hU hW => Pc0_at (Wd := ([] : va_W)) hE (hP.subm [] rfl) (hD.sub [] (by decide) rfl) hU hW⟩ rfl rfl hl.1 rfl (lv_room (Nat.le_of_ble_eq_true rfl)) dX6_luck_31 ⟨Nat.zero_le _, Nat.zero_le _⟩) hS hA hP hD (fun H locs hn31 hP hD hS => ?_)
        refine lv_if_ne (tgt := 41) hx hb dX6_luck_34 (by decide) (fun hc => ?_) (fun hc => ?_)
        · have hf := if_f hf hc
          refine lv_aload_n hx hb dX6_luck_41 rfl (lv_at hl 0 rfl) ?_
          refine va_get (C := RX6) (T := TX6) (N := 11) (ci := 6) (v := .ref ((ado 2) 0)) hx hb hts inX6 hown hT hP 0 rfl rfl 1 (Nat.le_of_ble_eq_true rfl) lk16 (fun _ h => h) rfl dX6_luck_42 ?_
          refine lv_aload_n hx hb dX6_luck_45 rfl (lv_at hl 0 rfl) ?_
          refine va_get (C := RX6) (T := TX6) (N := 11) (ci := 6) (v := .ref ((ado 1) 0)) hx hb hts inX6 hown hT hP 0 rfl rfl 0 (Nat.le_of_ble_eq_true rfl) lk12 (fun _ h => h) rfl dX6_luck_46 ?_
          obtain ⟨ftrial_49, hc49, hf⟩ := bd_e hf
          refine cl_v_up (Wd := (wX6 G ad ado f ++ (wX0 G (ado 1) fnow ++ (wX0 G (ado 2) ftrial)))) (Wc := (wX0 G (ado 2) ftrial ++ (wX0 G (ado 1) fnow))) (W' := (wX0 G (ado 2) ftrial_49 ++ (wX0 G (ado 1) fnow))) (W2 := (wX6 G ad ado f ++ (wX0 G (ado 1) fnow ++ (wX0 G (ado 2) ftrial_49)))) (Wr := (wX6 G ad ado f)) [15, 16, 17, 18, 19, 20, 21, 22, 23, 24, 25, 4, 5, 6, 7, 8, 9, 10, 11, 12, 13, 14] [0, 1, 2, 3] rfl rfl rfl rfl rfl rfl (va_runVN (As := [.ref ((ado 1) 0)]) (rest := []) hC (c_X0_copyFrom l G (ado 2) (ado 1) ftrial fnow ftrial_49 hc49 _) ⟨va_cnB 1 hts gX6_luck_X0_copyFrom_n93 rfl rfl rfl (hE.2.2 (RX6, 93, yX0_copyFrom, "FeatherShares") (List.mem_of_getElem? (i := 8) rfl)) (hts (.initialized RX0) (by decide +kernel)) (by decide +kernel) ⟨Nat.le_of_ble_eq_true rfl, Nat.le_of_ble_eq_true rfl⟩, hts (.instanceMethod yX0_copyFrom) (by decide +kernel), hts (.selects RX0 yX0_copyFrom yX0_copyFrom) (by decide +kernel)⟩ ⟨Pc0_blind, va_recv hT hP (q0 := 15) (ci := 0) rfl rfl, fun U hU hW => Pc0_at (Wd := (wX0 G (ado 2) ftrial ++ (wX0 G (ado 1) fnow))) hE (hP.subm [15, 16, 17, 18, 19, 20, 21, 22, 23, 24, 25, 4, 5, 6, 7, 8, 9, 10, 11, 12, 13, 14] rfl) (hD.sub [15, 16, 17, 18, 19, 20, 21, 22, 23, 24, 25, 4, 5, 6, 7, 8, 9, 10, 11, 12, 13, 14] (by decide) rfl) hU hW⟩ rfl rfl hl.1 rfl (lv_room (Nat.le_of_ble_eq_true rfl)) dX6_luck_49 ⟨Nat.zero_le _, Nat.zero_le _⟩) hS hA hP hD (fun H locs hP hD hS => ?_)
          refine lv_lconst (v := (lN 0)) hx hb dX6_luck_52 rfl ?_
          refine lv_lstore (lv' := [(6, .long (lN 0)), (0, .ref (ad 0)), (1, .int x1), (2, .int x2), (3, .int x3), (4, .int x4), (5, .int x5)]) hx hb dX6_luck_53 hl (by decide) rfl (fun ls hl => ?_)
          refine lv_iconst (v := (nI 0)) hx hb dX6_luck_55 (ic_0) ?_
          refine lv_istore (lv' := [(8, .int (nI 0)), (6, .long (lN 0)), (0, .ref (ad 0)), (1, .int x1), (2, .int x2), (3, .int x3), (4, .int x4), (5, .int x5)]) hx hb dX6_luck_56 hl (by decide) rfl (fun ls hl => ?_)
          obtain ⟨⟨y6_58, ftrial_58⟩, hlp, hf⟩ := bd_e hf
          refine lp_W1 (p_X6_luck_L58 f fnow x1 x2 x3 x4 x5) (fun z => match z with | (x6, x8, ftrial_) => ∀ (H : Heap) (locs : List Loc) (ls : Array Slot), va_P G.1 vwCl (wX6 G ad ado f ++ (wX0 G (ado 1) fnow ++ (wX0 G (ado 2) ftrial_))) H → va_D A (wX6 G ad ado f ++ (wX0 G (ado 1) fnow ++ (wX0 G (ado 2) ftrial_))) → va_S A s.heap H locs → lv_has ls 9 [(0, .ref (ad 0)), (1, .int x1), (2, .int x2), (3, .int x3), (4, .int x4), (5, .int x5), (6, .long x6), (8, .int x8)] → W p l e ({ frames := 4, cells := 0, slots := 0, locals := 110 }) s m args below meth c H locs 0 0 Q (F0 m 58 ls [])) (fun z => match z with | (y6_58, ftrial_58) => ∀ (H : Heap) (locs : List Loc) (ls : Array Slot), va_P G.1 vwCl (wX6 G ad ado f ++ (wX0 G (ado 1) fnow ++ (wX0 G (ado 2) ftrial_58))) H → va_D A (wX6 G ad ado f ++ (wX0 G (ado 1) fnow ++ (wX0 G (ado 2) ftrial_58))) → va_S A s.heap H locs → lv_has ls 9 [(4, .int x4), (5, .int x5), (6, .long y6_58)] → W p l e ({ frames := 4, cells := 0, slots := 0, locals := 110 }) s m args below meth c H locs 0 0 Q (F0 m 104 ls [])) ?_ hlp ?_ _ _ _ hP hD hS (lv_sub hl [2, 3, 4, 5, 6, 7, 1, 0] rfl)
          · clear hlp hf hK hP hD hS hl
            intro K58 hW58 hX58 
            have hB90 : ∀ (ftrial_ : Mem) (x6 : Int64) (x8 : Int32) (res : (Int64 × Int32 × Mem) ⊕ (Int64 × Mem)) (hf : p_X6_luck_B90 f fnow ftrial_ x1 x2 x3 x4 x5 x6 x8 = some res) (hK : K58 res), ∀ (H : Heap) (locs : List Loc) (ls : Array Slot), va_P G.1 vwCl (wX6 G ad ado f ++ (wX0 G (ado 1) fnow ++ (wX0 G (ado 2) ftrial_))) H → va_D A (wX6 G ad ado f ++ (wX0 G (ado 1) fnow ++ (wX0 G (ado 2) ftrial_))) → va_S A s.heap H locs → lv_has ls 9 [(0, .ref (ad 0)), (1, .int x1), (2, .int x2), (3, .int x3), (4, .int x4), (5, .int x5), (6, .long x6), (8, .int x8)] → W p l e ({ frames := 4, cells := 0, slots := 0, locals := 110 }) s m args below meth c H locs 0 0 Q (F0 m 90 ls []) := by
              intro ftrial_ x6 x8 res hf hK H locs ls hP hD hS hl
              unfold p_X6_luck_B90 at hf
              refine lv_aload_n hx hb dX6_luck_90 rfl (lv_at hl 0 rfl) ?_
              refine va_get (C := RX6) (T := TX6) (N := 11) (ci := 6) (v := .ref ((ado 2) 0)) hx hb hts inX6 hown hT hP 0 rfl rfl 1 (Nat.le_of_ble_eq_true rfl) lk16 (fun _ h => h) rfl dX6_luck_91 ?_
              obtain ⟨⟨r94, ftrial_94⟩, hc94, hf⟩ := bd_e hf
              try dsimp only at hf
              refine cl_i_up (Wd := (wX6 G ad ado f ++ (wX0 G (ado 1) fnow ++ (wX0 G (ado 2) ftrial_)))) (Wc := (wX0 G (ado 2) ftrial_)) (W' := (wX0 G (ado 2) ftrial_94)) (W2 := (wX6 G ad ado f ++ (wX0 G (ado 1) fnow ++ (wX0 G (ado 2) ftrial_94)))) (Wr := (wX6 G ad ado f ++ (wX0 G (ado 1) fnow))) [15, 16, 17, 18, 19, 20, 21, 22, 23, 24, 25] [0, 1, 2, 3, 4, 5, 6, 7, 8, 9, 10, 11, 12, 13, 14] rfl rfl rfl rfl rfl rfl (va_runVN (As := []) (rest := []) hC (c_X0_passWeek l G (ado 2) ftrial_ r94 ftrial_94 hc94 _) ⟨va_cnB 0 hts gX6_luck_X0_passWeek_n207 rfl rfl rfl (hE.2.2 (RX6, 207, yX0_passWeek, "FeatherShares") (List.mem_of_getElem? (i := 25) rfl)) (hts (.initialized RX0) (by decide +kernel)) (by decide +kernel) ⟨Nat.le_of_ble_eq_true rfl, Nat.le_of_ble_eq_true rfl⟩, hts (.instanceMethod yX0_passWeek) (by decide +kernel), hts (.selects RX0 yX0_passWeek yX0_passWeek) (by decide +kernel)⟩ ⟨Pc0_blind, va_recv hT hP (q0 := 15) (ci := 0) rfl rfl, fun U hU hW => Pc0_at (Wd := (wX0 G (ado 2) ftrial_)) hE (hP.subm [15, 16, 17, 18, 19, 20, 21, 22, 23, 24, 25] rfl) (hD.sub [15, 16, 17, 18, 19, 20, 21, 22, 23, 24, 25] (by decide) rfl) hU hW⟩ rfl rfl hl.1 rfl (lv_room (Nat.le_of_ble_eq_true rfl)) dX6_luck_94 ⟨Nat.zero_le _, Nat.zero_le _⟩) hS hA hP hD (fun H locs hP hD hS => ?_)
              refine lv_pop hx hb dX6_luck_97 rfl ?_
              refine lv_iinc (v := (x8 + nI 1)) (lv' := [(8, .int (x8 + nI 1)), (0, .ref (ad 0)), (1, .int x1), (2, .int x2), (3, .int x3), (4, .int x4), (5, .int x5), (6, .long x6)]) hx hb dX6_luck_98 hl (k := 7) rfl (ii_x 1 _) (by decide) rfl (fun ls hl => ?_)
              refine lv_goto (tgt := 58) hx hb dX6_luck_101 (by decide) ?_
              have hK9 := K_of hf hK
              have hK9 := hW58 _ hK9
              exact hK9 _ _ _ hP hD hS (lv_sub hl [1, 2, 3, 4, 5, 6, 7, 0] rfl)
            rintro ⟨x6, x8, ftrial_⟩ res hf hK H locs ls hP hD hS hl
            unfold p_X6_luck_L58 at hf
            dsimp only at hf
            refine lv_iload hx hb dX6_luck_58 (lv_at hl 7 rfl) ?_
            refine lv_iload hx hb dX6_luck_60 (lv_at hl 4 rfl) ?_
            refine lv_icmp_gt (tgt := 104) hx hb dX6_luck_62 (by decide) (fun hc => ?_) (fun hc => ?_)
            · have hf := if_t hf hc
              have hK9 := K_of hf hK
              have hK9 := hX58 _ hK9
              exact hK9 _ _ _ hP hD hS (lv_sub hl [4, 5, 6] rfl)
            · have hf := if_f hf hc
              refine lv_aload_n hx hb dX6_luck_65 rfl (lv_at hl 0 rfl) ?_
              refine va_get (C := RX6) (T := TX6) (N := 11) (ci := 6) (v := .ref ((ado 2) 0)) hx hb hts inX6 hown hT hP 0 rfl rfl 1 (Nat.le_of_ble_eq_true rfl) lk16 (fun _ h => h) rfl dX6_luck_66 ?_
              refine lv_iload_n hx hb dX6_luck_69 rfl (lv_at hl 2 rfl) ?_
              obtain ⟨r70, hc70, hf⟩ := bd_e hf
              refine cl_i_ro (Wd := (wX6 G ad ado f ++ (wX0 G (ado 1) fnow ++ (wX0 G (ado 2) ftrial_)))) (Wc := (wX0 G (ado 2) ftrial_)) [15, 16, 17, 18, 19, 20, 21, 22, 23, 24, 25] rfl (va_runVN (As := [.int x2]) (rest := []) hC (c_X0_eggOwner l G (ado 2) ftrial_ x2 r70 hc70 _) ⟨va_cnB 1 hts gX6_luck_X0_eggOwner_n142 rfl rfl rfl (hE.2.2 (RX6, 142, yX0_eggOwner, "FeatherShares") (List.mem_of_getElem? (i := 12) rfl)) (hts (.initialized RX0) (by decide +kernel)) (by decide +kernel) ⟨Nat.le_of_ble_eq_true rfl, Nat.le_of_ble_eq_true rfl⟩, hts (.instanceMethod yX0_eggOwner) (by decide +kernel), hts (.selects RX0 yX0_eggOwner yX0_eggOwner) (by decide +kernel)⟩ ⟨Pc0_blind, va_recv hT hP (q0 := 15) (ci := 0) rfl rfl, fun U hU hW => Pc0_at (Wd := (wX0 G (ado 2) ftrial_)) hE (hP.subm [15, 16, 17, 18, 19, 20, 21, 22, 23, 24, 25] rfl) (hD.sub [15, 16, 17, 18, 19, 20, 21, 22, 23, 24, 25] (by decide) rfl) hU hW⟩ rfl rfl hl.1 rfl (lv_room (Nat.le_of_ble_eq_true rfl)) dX6_luck_70 ⟨Nat.zero_le _, Nat.zero_le _⟩) hS hA hP hD (fun H locs hP hD hS => ?_)
              refine lv_iload_n hx hb dX6_luck_73 rfl (lv_at hl 3 rfl) ?_
              refine lv_icmp_ne (tgt := 90) hx hb dX6_luck_74 (by decide) (fun hc => ?_) (fun hc => ?_)
              · have hf := if_f hf hc
                exact hB90 ftrial_ x6 x8 _ hf hK _ _ _ hP hD hS (lv_sub hl [0, 1, 2, 3, 4, 5, 6, 7] rfl)
              · have hf := if_t hf hc
                refine lv_lload hx hb dX6_luck_77 (lv_at hl 6 rfl) ?_
                refine lv_iload_n hx hb dX6_luck_79 rfl (lv_at hl 1 rfl) ?_
                refine lv_iload hx hb dX6_luck_80 (lv_at hl 4 rfl) ?_
                refine lv_iload hx hb dX6_luck_82 (lv_at hl 7 rfl) ?_
                obtain ⟨r84, hc84, hf⟩ := bd_e hf
                refine cl_l_ro (Wd := (wX6 G ad ado f ++ (wX0 G (ado 1) fnow ++ (wX0 G (ado 2) ftrial_)))) (Wc := ([] : va_W)) [] rfl (va_runS (As := [.int x1, .int x4, .int x8]) (rest := [.long x6]) hC (c_X6_waysToMoult l G x1 x4 x8 r84 hc84 _) (va_cwS 3 hts gX6_luck_X6_waysToMoult rfl rfl rfl (by decide +kernel) ⟨Nat.le_of_ble_eq_true rfl, Nat.le_of_ble_eq_true rfl⟩) ⟨Pc0_blind, fun U hU hW => Pc0_at (Wd := ([] : va_W)) hE (hP.subm [] rfl) (hD.sub [] (by decide) rfl) hU hW⟩ rfl rfl hl.1 rfl (lv_room (Nat.le_of_ble_eq_true rfl)) dX6_luck_84 ⟨Nat.zero_le _, Nat.zero_le _⟩) hS hA hP hD (fun H locs hP hD hS => ?_)
                refine lv_ladd hx hb dX6_luck_87 ?_
                refine lv_lstore (lv' := [(6, .long (x6 + r84)), (0, .ref (ad 0)), (1, .int x1), (2, .int x2), (3, .int x3), (4, .int x4), (5, .int x5), (8, .int x8)]) hx hb dX6_luck_88 hl (by decide) rfl (fun ls hl => ?_)
                exact hB90 ftrial_ (x6 + r84) x8 _ hf hK _ _ _ hP hD hS (lv_sub hl [1, 2, 3, 4, 5, 6, 0, 7] rfl)
          · try dsimp only at hf
            show ∀ (H : Heap) (locs : List Loc) (ls : Array Slot), va_P G.1 vwCl (wX6 G ad ado f ++ (wX0 G (ado 1) fnow ++ (wX0 G (ado 2) ftrial_58))) H → va_D A (wX6 G ad ado f ++ (wX0 G (ado 1) fnow ++ (wX0 G (ado 2) ftrial_58))) → va_S A s.heap H locs → lv_has ls 9 [(4, .int x4), (5, .int x5), (6, .long y6_58)] → W p l e ({ frames := 4, cells := 0, slots := 0, locals := 110 }) s m args below meth c H locs 0 0 Q (F0 m 104 ls [])
            intro H locs ls hP hD hS hl
            refine lv_lload hx hb dX6_luck_104 (lv_at hl 2 rfl) ?_
            refine lv_bipush (v := (nI 10)) hx hb dX6_luck_106 (bi_10) ?_
            refine lv_iload hx hb dX6_luck_108 (lv_at hl 0 rfl) ?_
            obtain ⟨r110, hc110, hf⟩ := bd_e hf
            refine cl_l_ro (Wd := (wX6 G ad ado f ++ (wX0 G (ado 1) fnow ++ (wX0 G (ado 2) ftrial_58)))) (Wc := ([] : va_W)) [] rfl (va_runS (As := [.int (nI 10), .int x4]) (rest := [.long y6_58]) hC (c_X6_raised l G (nI 10) x4 r110 hc110 _) (va_cwS 2 hts gX6_luck_X6_raised rfl rfl rfl (by decide +kernel) ⟨Nat.le_of_ble_eq_true rfl, Nat.le_of_ble_eq_true rfl⟩) ⟨Pc0_blind, fun U hU hW => Pc0_at (Wd := ([] : va_W)) hE (hP.subm [] rfl) (hD.sub [] (by decide) rfl) hU hW⟩ rfl rfl hl.1 rfl (lv_room (Nat.le_of_ble_eq_true rfl)) dX6_luck_110 ⟨Nat.zero_le _, Nat.zero_le _⟩) hS hA hP hD (fun H locs hP hD hS => ?_)
            refine lv_iload hx hb dX6_luck_113 (lv_at hl 1 rfl) ?_
            obtain ⟨r115, hc115, hf⟩ := bd_e hf
            refine cl_l_ro (Wd := (wX6 G ad ado f ++ (wX0 G (ado 1) fnow ++ (wX0 G (ado 2) ftrial_58)))) (Wc := ([] : va_W)) [] rfl (va_runS (As := [.long y6_58, .long r110, .int x5]) (rest := []) hC (c_X6_partOfFraction l G y6_58 r110 x5 r115 hc115 _) (va_cwS 3 hts gX6_luck_X6_partOfFraction rfl rfl rfl (by decide +kernel) ⟨Nat.le_of_ble_eq_true rfl, Nat.le_of_ble_eq_true rfl⟩) ⟨Pc0_blind, fun U hU hW => Pc0_at (Wd := ([] : va_W)) hE (hP.subm [] rfl) (hD.sub [] (by decide) rfl) hU hW⟩ rfl rfl hl.1 rfl (lv_room (Nat.le_of_ble_eq_true rfl)) dX6_luck_115 ⟨Nat.zero_le _, Nat.zero_le _⟩) hS hA hP hD (fun H locs hP hD hS => ?_)
            have hK9 := K0_of hf hK
            exact hRet r115 ftrial_58 _ _ _ _ hK9 dX6_luck_118 hP hD hS
        · have hf := if_t hf hc
          exact hB37 ftrial _ hf hK _ _ _ hP hD hS (lv_sub hl [] rfl)
noncomputable def p_X6_mean_B29 (f : Mem) (fnow : Mem) (ftrial : Mem) : Option (Int64 × Mem) :=
  some ((-1 : Int64), ftrial)
noncomputable def p_X6_mean_L50 (f : Mem) (fnow : Mem) (x1 : Int32) (x2 : Int32) (x3 : Int32) (x4 : Int32) (z : Int64 × Int32 × Mem) : Option ((Int64 × Int32 × Mem) ⊕ (Int64 × Mem)) :=
  match z with
  | (x5, x7, ftrial_) =>
    if x3 < x7 then
      (some (Sum.inr (x5, ftrial_)))
    else
      (Option.bind (p_X6_waysToMoult x1 x3 x7) <| fun r62 =>
       Option.bind (p_X0_feathersOf ftrial_ x2) <| fun r70 =>
       Option.bind (p_X0_passWeek ftrial_) <| fun (r82, ftrial_82) =>
       some (Sum.inl ((x5 + (r62 * ((r70).toInt64))), (x7 + nI 1), ftrial_82)))
noncomputable def p_X6_mean (f : Mem) (fnow : Mem) (ftrial : Mem) (x1 : Int32) (x2 : Int32) (x3 : Int32) (x4 : Int32) : Option (Int64 × Mem) :=
  Option.bind (p_X6_areOdds x1 x3) <| fun r2 =>
  if r2 = 0 then
    (p_X6_mean_B29 f fnow ftrial)
  else
    (Option.bind (p_X0_hasGoose fnow x2) <| fun r13 =>
     if r13 = 0 then
       (p_X6_mean_B29 f fnow ftrial)
     else
       (Option.bind (p_X6_isWithin x4 (nI 0) (nI 1)) <| fun r23 =>
        if r23 = 0 then
          (p_X6_mean_B29 f fnow ftrial)
        else
          (Option.bind (p_X0_copyFrom ftrial fnow) <| fun ftrial_41 =>
           Option.bind (lp (p_X6_mean_L50 f fnow x1 x2 x3 x4) ((lN 0), (nI 0), ftrial_41)) <| fun (y5_50, ftrial_50) =>
           Option.bind (p_X6_raised (nI 10) x3) <| fun r97 =>
           Option.bind (p_X6_partOfFraction y5_50 r97 x4) <| fun r102 =>
           some (r102, ftrial_50))))
set_option maxHeartbeats 4000000 in
set_option maxRecDepth 100000 in
theorem c_X6_mean (l : Launch) (G : Gt) (ad : Nat → Nat) (ado : Nat → Nat → Nat) (f : Mem) (fnow : Mem) (ftrial : Mem) (x1 : Int32) (x2 : Int32) (x3 : Int32) (x4 : Int32) (r : Int64) (ftrialz : Mem) (hf : p_X6_mean f fnow ftrial x1 x2 x3 x4 = some (r, ftrialz)) (sz : Nat) : Met l yX6_mean wsX6_mean ({ frames := 4, cells := 0, slots := 0, locals := 110 }) (Pc0 G sz [.ref (ad 0), .int x1, .int x2, .int x3, .int x4] (wX6 G ad ado f ++ (wX0 G (ado 1) fnow ++ (wX0 G (ado 2) ftrial)))) (Ql0 G (va_A (wX6 G ad ado f ++ (wX0 G (ado 1) fnow ++ (wX0 G (ado 2) ftrial))) sz) r (wX6 G ad ado f ++ (wX0 G (ado 1) fnow ++ (wX0 G (ado 2) ftrialz)))) 0 0 (va_A (wX6 G ad ado f ++ (wX0 G (ado 1) fnow ++ (wX0 G (ado 2) ftrial))) sz) := by
  refine metP (Qf := fun A => Ql0 G A r (wX6 G ad ado f ++ (wX0 G (ado 1) fnow ++ (wX0 G (ado 2) ftrialz)))) cX6_mean 8 (some .long) (by decide) rfl (Nat.le_of_ble_eq_true rfl) ?_
  intro p e s m below meth c A ls hC hr hlocks hin hE hA hsz hP hD hS hl
  generalize hargs : ([.ref (ad 0), .int x1, .int x2, .int x3, .int x4] : List Value).toArray = args at hC ⊢
  obtain ⟨hx, hb, hml, hown, hts⟩ := id hC
  have hT : va_K G.1 vwCl (tyL G) s := hE.1
  have hRet : ∀ (r9 : Int64) (ftrial9 : Mem) (H : Heap) (locs : List Loc) (ls : Array Slot) (pc : Nat) (hK9 : (r9, ftrial9) = (r, ftrialz)) (hdg : decode cX6_mean pc = .ok (.lreturn, 1)), va_P G.1 vwCl (wX6 G ad ado f ++ (wX0 G (ado 1) fnow ++ (wX0 G (ado 2) ftrial9))) H → va_D A (wX6 G ad ado f ++ (wX0 G (ado 1) fnow ++ (wX0 G (ado 2) ftrial9))) → va_S A s.heap H locs → W p l e ({ frames := 4, cells := 0, slots := 0, locals := 110 }) s m args below meth c H locs 0 0 (MQ below (Ql0 G A r (wX6 G ad ado f ++ (wX0 G (ado 1) fnow ++ (wX0 G (ado 2) ftrialz)))) args s 0 0 A) (F0 m pc ls [.long r9]) := by
    intro r9 ftrial9 H locs ls pc hK9 hdg hP hD hS
    cases hK9
    exact W.lret hx hb hr (fun t ht hW => ⟨⟨r, (), rfl, rfl, by rw [ht]; exact hP, hD⟩, hS.F ht⟩) hS.2.2 hdg hlocks
  generalize MQ below (Ql0 G A r (wX6 G ad ado f ++ (wX0 G (ado 1) fnow ++ (wX0 G (ado 2) ftrialz)))) args s 0 0 A = Q at hRet ⊢
  have lk12 := hts (.fieldLink RX6 12 "FeatherShares" "now" "LFeatherShares$Flock;") (by decide +kernel)
  have inX6 : ∀ w ∈ u_ws RX6 TX6 11, w ∈ wsX6_mean := by decide +kernel
  have lk16 := hts (.fieldLink RX6 16 "FeatherShares" "trial" "LFeatherShares$Flock;") (by decide +kernel)
  have hl : lv_has ls 8 [(0, .ref (ad 0)), (1, .int x1), (2, .int x2), (3, .int x3), (4, .int x4)] := hl
  have hK0 : (r, ftrialz) = (r, ftrialz) := rfl
  have hB29 : ∀ (ftrial : Mem) (res : Int64 × Mem) (hf : p_X6_mean_B29 f fnow ftrial = some res) (hK : res = (r, ftrialz)), ∀ (H : Heap) (locs : List Loc) (ls : Array Slot), va_P G.1 vwCl (wX6 G ad ado f ++ (wX0 G (ado 1) fnow ++ (wX0 G (ado 2) ftrial))) H → va_D A (wX6 G ad ado f ++ (wX0 G (ado 1) fnow ++ (wX0 G (ado 2) ftrial))) → va_S A s.heap H locs → lv_has ls 8 [] → W p l e ({ frames := 4, cells := 0, slots := 0, locals := 110 }) s m args below meth c H locs 0 0 Q (F0 m 29 ls []) := by
    intro ftrial res hf hK H locs ls hP hD hS hl
    unfold p_X6_mean_B29 at hf
    refine W.ldc2 (v := (-1 : Int64)) hx hb hown (hts (.constantLong RX6 241 (-1 : Int64)) (by decide +kernel)) rfl dX6_mean_29 ?_
    refine W.eq (g2 := F0 m 32 ls [.long (-1 : Int64)]) rfl ?_
    have hK9 := K0_of hf hK
    exact hRet (-1 : Int64) ftrial _ _ _ _ hK9 dX6_mean_32 hP hD hS
  obtain ⟨res, hres, hK⟩ : ∃ res, p_X6_mean f fnow ftrial x1 x2 x3 x4 = some res ∧ res = (r, ftrialz) := ⟨_, hf, rfl⟩
  clear hf
  have hf := hres
  clear hres
  unfold p_X6_mean at hf
  refine lv_iload_n hx hb dX6_mean_0 rfl (lv_at hl 1 rfl) ?_
  refine lv_iload_n hx hb dX6_mean_1 rfl (lv_at hl 3 rfl) ?_
  obtain ⟨r2, hc2, hf⟩ := bd_e hf
  refine cl_z_ro (Wd := (wX6 G ad ado f ++ (wX0 G (ado 1) fnow ++ (wX0 G (ado 2) ftrial)))) (Wc := ([] : va_W)) [] rfl (va_runS (As := [.int x1, .int x3]) (rest := []) hC (c_X6_areOdds l G x1 x3 r2 hc2 _) (va_cwS 2 hts gX6_mean_X6_areOdds rfl rfl rfl (by decide +kernel) ⟨Nat.le_of_ble_eq_true rfl, Nat.le_of_ble_eq_true rfl⟩) ⟨Pc0_blind, fun U hU hW => Pc0_at (Wd := ([] : va_W)) hE (hP.subm [] rfl) (hD.sub [] (by decide) rfl) hU hW⟩ rfl rfl hl.1 rfl (lv_room (Nat.le_of_ble_eq_true rfl)) dX6_mean_2 ⟨Nat.zero_le _, Nat.zero_le _⟩) hS hA hP hD (fun H locs hn2 hP hD hS => ?_)
  refine lv_if_eq (tgt := 29) hx hb dX6_mean_5 (by decide) (fun hc => ?_) (fun hc => ?_)
  · have hf := if_t hf hc
    exact hB29 ftrial _ hf hK _ _ _ hP hD hS (lv_sub hl [] rfl)
  · have hf := if_f hf hc
    refine lv_aload_n hx hb dX6_mean_8 rfl (lv_at hl 0 rfl) ?_
    refine va_get (C := RX6) (T := TX6) (N := 11) (ci := 6) (v := .ref ((ado 1) 0)) hx hb hts inX6 hown hT hP 0 rfl rfl 0 (Nat.le_of_ble_eq_true rfl) lk12 (fun _ h => h) rfl dX6_mean_9 ?_
    refine lv_iload_n hx hb dX6_mean_12 rfl (lv_at hl 2 rfl) ?_
    obtain ⟨r13, hc13, hf⟩ := bd_e hf
    refine cl_z_ro (Wd := (wX6 G ad ado f ++ (wX0 G (ado 1) fnow ++ (wX0 G (ado 2) ftrial)))) (Wc := (wX0 G (ado 1) fnow)) [4, 5, 6, 7, 8, 9, 10, 11, 12, 13, 14] rfl (va_runVN (As := [.int x2]) (rest := []) hC (c_X0_hasGoose l G (ado 1) fnow x2 r13 hc13 _) ⟨va_cnB 1 hts gX6_mean_X0_hasGoose_n126 rfl rfl rfl (hE.2.2 (RX6, 126, yX0_hasGoose, "FeatherShares") (List.mem_of_getElem? (i := 10) rfl)) (hts (.initialized RX0) (by decide +kernel)) (by decide +kernel) ⟨Nat.le_of_ble_eq_true rfl, Nat.le_of_ble_eq_true rfl⟩, hts (.instanceMethod yX0_hasGoose) (by decide +kernel), hts (.selects RX0 yX0_hasGoose yX0_hasGoose) (by decide +kernel)⟩ ⟨Pc0_blind, va_recv hT hP (q0 := 4) (ci := 0) rfl rfl, fun U hU hW => Pc0_at (Wd := (wX0 G (ado 1) fnow)) hE (hP.subm [4, 5, 6, 7, 8, 9, 10, 11, 12, 13, 14] rfl) (hD.sub [4, 5, 6, 7, 8, 9, 10, 11, 12, 13, 14] (by decide) rfl) hU hW⟩ rfl rfl hl.1 rfl (lv_room (Nat.le_of_ble_eq_true rfl)) dX6_mean_13 ⟨Nat.zero_le _, Nat.zero_le _⟩) hS hA hP hD (fun H locs hn13 hP hD hS => ?_)
    refine lv_if_eq (tgt := 29) hx hb dX6_mean_16 (by decide) (fun hc => ?_) (fun hc => ?_)
    · have hf := if_t hf hc
      exact hB29 ftrial _ hf hK _ _ _ hP hD hS (lv_sub hl [] rfl)
    · have hf := if_f hf hc
      refine lv_iload hx hb dX6_mean_19 (lv_at hl 4 rfl) ?_
      refine lv_iconst (v := (nI 0)) hx hb dX6_mean_21 (ic_0) ?_
      refine lv_iconst (v := (nI 1)) hx hb dX6_mean_22 (ic_1) ?_
      obtain ⟨r23, hc23, hf⟩ := bd_e hf
      refine cl_z_ro (Wd := (wX6 G ad ado f ++ (wX0 G (ado 1) fnow ++ (wX0 G (ado 2) ftrial)))) (Wc := ([] : va_W)) [] rfl (va_runS (As := [.int x4, .int (nI 0), .int (nI 1)]) (rest := []) hC (c_X6_isWithin l G x4 (nI 0) (nI 1) r23 hc23 _) (va_cwS 3 hts gX6_mean_X6_isWithin rfl rfl rfl (by decide +kernel) ⟨Nat.le_of_ble_eq_true rfl, Nat.le_of_ble_eq_true rfl⟩) ⟨Pc0_blind, fun U hU hW => Pc0_at (Wd := ([] : va_W)) hE (hP.subm [] rfl) (hD.sub [] (by decide) rfl) hU hW⟩ rfl rfl hl.1 rfl (lv_room (Nat.le_of_ble_eq_true rfl)) dX6_mean_23 ⟨Nat.zero_le _, Nat.zero_le _⟩) hS hA hP hD (fun H locs hn23 hP hD hS => ?_)
      refine lv_if_ne (tgt := 33) hx hb dX6_mean_26 (by decide) (fun hc => ?_) (fun hc => ?_)
      · have hf := if_f hf hc
        refine lv_aload_n hx hb dX6_mean_33 rfl (lv_at hl 0 rfl) ?_
        refine va_get (C := RX6) (T := TX6) (N := 11) (ci := 6) (v := .ref ((ado 2) 0)) hx hb hts inX6 hown hT hP 0 rfl rfl 1 (Nat.le_of_ble_eq_true rfl) lk16 (fun _ h => h) rfl dX6_mean_34 ?_
        refine lv_aload_n hx hb dX6_mean_37 rfl (lv_at hl 0 rfl) ?_
        refine va_get (C := RX6) (T := TX6) (N := 11) (ci := 6) (v := .ref ((ado 1) 0)) hx hb hts inX6 hown hT hP 0 rfl rfl 0 (Nat.le_of_ble_eq_true rfl) lk12 (fun _ h => h) rfl dX6_mean_38 ?_
        obtain ⟨ftrial_41, hc41, hf⟩ := bd_e hf
        refine cl_v_up (Wd := (wX6 G ad ado f ++ (wX0 G (ado 1) fnow ++ (wX0 G (ado 2) ftrial)))) (Wc := (wX0 G (ado 2) ftrial ++ (wX0 G (ado 1) fnow))) (W' := (wX0 G (ado 2) ftrial_41 ++ (wX0 G (ado 1) fnow))) (W2 := (wX6 G ad ado f ++ (wX0 G (ado 1) fnow ++ (wX0 G (ado 2) ftrial_41)))) (Wr := (wX6 G ad ado f)) [15, 16, 17, 18, 19, 20, 21, 22, 23, 24, 25, 4, 5, 6, 7, 8, 9, 10, 11, 12, 13, 14] [0, 1, 2, 3] rfl rfl rfl rfl rfl rfl (va_runVN (As := [.ref ((ado 1) 0)]) (rest := []) hC (c_X0_copyFrom l G (ado 2) (ado 1) ftrial fnow ftrial_41 hc41 _) ⟨va_cnB 1 hts gX6_mean_X0_copyFrom_n93 rfl rfl rfl (hE.2.2 (RX6, 93, yX0_copyFrom, "FeatherShares") (List.mem_of_getElem? (i := 8) rfl)) (hts (.initialized RX0) (by decide +kernel)) (by decide +kernel) ⟨Nat.le_of_ble_eq_true rfl, Nat.le_of_ble_eq_true rfl⟩, hts (.instanceMethod yX0_copyFrom) (by decide +kernel), hts (.selects RX0 yX0_copyFrom yX0_copyFrom) (by decide +kernel)⟩ ⟨Pc0_blind, va_recv hT hP (q0 := 15) (ci := 0) rfl rfl, fun U hU hW => Pc0_at (Wd := (wX0 G (ado 2) ftrial ++ (wX0 G (ado 1) fnow))) hE (hP.subm [15, 16, 17, 18, 19, 20, 21, 22, 23, 24, 25, 4, 5, 6, 7, 8, 9, 10, 11, 12, 13, 14] rfl) (hD.sub [15, 16, 17, 18, 19, 20, 21, 22, 23, 24, 25, 4, 5, 6, 7, 8, 9, 10, 11, 12, 13, 14] (by decide) rfl) hU hW⟩ rfl rfl hl.1 rfl (lv_room (Nat.le_of_ble_eq_true rfl)) dX6_mean_41 ⟨Nat.zero_le _, Nat.zero_le _⟩) hS hA hP hD (fun H locs hP hD hS => ?_)
        refine lv_lconst (v := (lN 0)) hx hb dX6_mean_44 rfl ?_
        refine lv_lstore (lv' := [(5, .long (lN 0)), (0, .ref (ad 0)), (1, .int x1), (2, .int x2), (3, .int x3), (4, .int x4)]) hx hb dX6_mean_45 hl (by decide) rfl (fun ls hl => ?_)
        refine lv_iconst (v := (nI 0)) hx hb dX6_mean_47 (ic_0) ?_
        refine lv_istore (lv' := [(7, .int (nI 0)), (5, .long (lN 0)), (0, .ref (ad 0)), (1, .int x1), (2, .int x2), (3, .int x3), (4, .int x4)]) hx hb dX6_mean_48 hl (by decide) rfl (fun ls hl => ?_)
        obtain ⟨⟨y5_50, ftrial_50⟩, hlp, hf⟩ := bd_e hf
        refine lp_W1 (p_X6_mean_L50 f fnow x1 x2 x3 x4) (fun z => match z with | (x5, x7, ftrial_) => ∀ (H : Heap) (locs : List Loc) (ls : Array Slot), va_P G.1 vwCl (wX6 G ad ado f ++ (wX0 G (ado 1) fnow ++ (wX0 G (ado 2) ftrial_))) H → va_D A (wX6 G ad ado f ++ (wX0 G (ado 1) fnow ++ (wX0 G (ado 2) ftrial_))) → va_S A s.heap H locs → lv_has ls 8 [(0, .ref (ad 0)), (1, .int x1), (2, .int x2), (3, .int x3), (4, .int x4), (5, .long x5), (7, .int x7)] → W p l e ({ frames := 4, cells := 0, slots := 0, locals := 110 }) s m args below meth c H locs 0 0 Q (F0 m 50 ls [])) (fun z => match z with | (y5_50, ftrial_50) => ∀ (H : Heap) (locs : List Loc) (ls : Array Slot), va_P G.1 vwCl (wX6 G ad ado f ++ (wX0 G (ado 1) fnow ++ (wX0 G (ado 2) ftrial_50))) H → va_D A (wX6 G ad ado f ++ (wX0 G (ado 1) fnow ++ (wX0 G (ado 2) ftrial_50))) → va_S A s.heap H locs → lv_has ls 8 [(3, .int x3), (4, .int x4), (5, .long y5_50)] → W p l e ({ frames := 4, cells := 0, slots := 0, locals := 110 }) s m args below meth c H locs 0 0 Q (F0 m 92 ls [])) ?_ hlp ?_ _ _ _ hP hD hS (lv_sub hl [2, 3, 4, 5, 6, 1, 0] rfl)
        · clear hlp hf hK hP hD hS hl
          intro K50 hW50 hX50 
          rintro ⟨x5, x7, ftrial_⟩ res hf hK H locs ls hP hD hS hl
          unfold p_X6_mean_L50 at hf
          dsimp only at hf
          refine lv_iload hx hb dX6_mean_50 (lv_at hl 6 rfl) ?_
          refine lv_iload_n hx hb dX6_mean_52 rfl (lv_at hl 3 rfl) ?_
          refine lv_icmp_gt (tgt := 92) hx hb dX6_mean_53 (by decide) (fun hc => ?_) (fun hc => ?_)
          · have hf := if_t hf hc
            have hK9 := K_of hf hK
            have hK9 := hX50 _ hK9
            exact hK9 _ _ _ hP hD hS (lv_sub hl [3, 4, 5] rfl)
          · have hf := if_f hf hc
            refine lv_lload hx hb dX6_mean_56 (lv_at hl 5 rfl) ?_
            refine lv_iload_n hx hb dX6_mean_58 rfl (lv_at hl 1 rfl) ?_
            refine lv_iload_n hx hb dX6_mean_59 rfl (lv_at hl 3 rfl) ?_
            refine lv_iload hx hb dX6_mean_60 (lv_at hl 6 rfl) ?_
            obtain ⟨r62, hc62, hf⟩ := bd_e hf
            refine cl_l_ro (Wd := (wX6 G ad ado f ++ (wX0 G (ado 1) fnow ++ (wX0 G (ado 2) ftrial_)))) (Wc := ([] : va_W)) [] rfl (va_runS (As := [.int x1, .int x3, .int x7]) (rest := [.long x5]) hC (c_X6_waysToMoult l G x1 x3 x7 r62 hc62 _) (va_cwS 3 hts gX6_mean_X6_waysToMoult rfl rfl rfl (by decide +kernel) ⟨Nat.le_of_ble_eq_true rfl, Nat.le_of_ble_eq_true rfl⟩) ⟨Pc0_blind, fun U hU hW => Pc0_at (Wd := ([] : va_W)) hE (hP.subm [] rfl) (hD.sub [] (by decide) rfl) hU hW⟩ rfl rfl hl.1 rfl (lv_room (Nat.le_of_ble_eq_true rfl)) dX6_mean_62 ⟨Nat.zero_le _, Nat.zero_le _⟩) hS hA hP hD (fun H locs hP hD hS => ?_)
            refine lv_aload_n hx hb dX6_mean_65 rfl (lv_at hl 0 rfl) ?_
            refine va_get (C := RX6) (T := TX6) (N := 11) (ci := 6) (v := .ref ((ado 2) 0)) hx hb hts inX6 hown hT hP 0 rfl rfl 1 (Nat.le_of_ble_eq_true rfl) lk16 (fun _ h => h) rfl dX6_mean_66 ?_
            refine lv_iload_n hx hb dX6_mean_69 rfl (lv_at hl 2 rfl) ?_
            obtain ⟨r70, hc70, hf⟩ := bd_e hf
            refine cl_i_ro (Wd := (wX6 G ad ado f ++ (wX0 G (ado 1) fnow ++ (wX0 G (ado 2) ftrial_)))) (Wc := (wX0 G (ado 2) ftrial_)) [15, 16, 17, 18, 19, 20, 21, 22, 23, 24, 25] rfl (va_runVN (As := [.int x2]) (rest := [.long r62, .long x5]) hC (c_X0_feathersOf l G (ado 2) ftrial_ x2 r70 hc70 _) ⟨va_cnB 1 hts gX6_mean_X0_feathersOf_n138 rfl rfl rfl (hE.2.2 (RX6, 138, yX0_feathersOf, "FeatherShares") (List.mem_of_getElem? (i := 11) rfl)) (hts (.initialized RX0) (by decide +kernel)) (by decide +kernel) ⟨Nat.le_of_ble_eq_true rfl, Nat.le_of_ble_eq_true rfl⟩, hts (.instanceMethod yX0_feathersOf) (by decide +kernel), hts (.selects RX0 yX0_feathersOf yX0_feathersOf) (by decide +kernel)⟩ ⟨Pc0_blind, va_recv hT hP (q0 := 15) (ci := 0) rfl rfl, fun U hU hW => Pc0_at (Wd := (wX0 G (ado 2) ftrial_)) hE (hP.subm [15, 16, 17, 18, 19, 20, 21, 22, 23, 24, 25] rfl) (hD.sub [15, 16, 17, 18, 19, 20, 21, 22, 23, 24, 25] (by decide) rfl) hU hW⟩ rfl rfl hl.1 rfl (lv_room (Nat.le_of_ble_eq_true rfl)) dX6_mean_70 ⟨Nat.zero_le _, Nat.zero_le _⟩) hS hA hP hD (fun H locs hP hD hS => ?_)
            refine lv_i2l (v := ((r70).toInt64)) hx hb dX6_mean_73 rfl ?_
            refine lv_lmul hx hb dX6_mean_74 ?_
            refine lv_ladd hx hb dX6_mean_75 ?_
            refine lv_lstore (lv' := [(5, .long (x5 + (r62 * ((r70).toInt64)))), (0, .ref (ad 0)), (1, .int x1), (2, .int x2), (3, .int x3), (4, .int x4), (7, .int x7)]) hx hb dX6_mean_76 hl (by decide) rfl (fun ls hl => ?_)
            refine lv_aload_n hx hb dX6_mean_78 rfl (lv_at hl 1 rfl) ?_
            refine va_get (C := RX6) (T := TX6) (N := 11) (ci := 6) (v := .ref ((ado 2) 0)) hx hb hts inX6 hown hT hP 0 rfl rfl 1 (Nat.le_of_ble_eq_true rfl) lk16 (fun _ h => h) rfl dX6_mean_79 ?_
            obtain ⟨⟨r82, ftrial_82⟩, hc82, hf⟩ := bd_e hf
            try dsimp only at hf
            refine cl_i_up (Wd := (wX6 G ad ado f ++ (wX0 G (ado 1) fnow ++ (wX0 G (ado 2) ftrial_)))) (Wc := (wX0 G (ado 2) ftrial_)) (W' := (wX0 G (ado 2) ftrial_82)) (W2 := (wX6 G ad ado f ++ (wX0 G (ado 1) fnow ++ (wX0 G (ado 2) ftrial_82)))) (Wr := (wX6 G ad ado f ++ (wX0 G (ado 1) fnow))) [15, 16, 17, 18, 19, 20, 21, 22, 23, 24, 25] [0, 1, 2, 3, 4, 5, 6, 7, 8, 9, 10, 11, 12, 13, 14] rfl rfl rfl rfl rfl rfl (va_runVN (As := []) (rest := []) hC (c_X0_passWeek l G (ado 2) ftrial_ r82 ftrial_82 hc82 _) ⟨va_cnB 0 hts gX6_mean_X0_passWeek_n207 rfl rfl rfl (hE.2.2 (RX6, 207, yX0_passWeek, "FeatherShares") (List.mem_of_getElem? (i := 25) rfl)) (hts (.initialized RX0) (by decide +kernel)) (by decide +kernel) ⟨Nat.le_of_ble_eq_true rfl, Nat.le_of_ble_eq_true rfl⟩, hts (.instanceMethod yX0_passWeek) (by decide +kernel), hts (.selects RX0 yX0_passWeek yX0_passWeek) (by decide +kernel)⟩ ⟨Pc0_blind, va_recv hT hP (q0 := 15) (ci := 0) rfl rfl, fun U hU hW => Pc0_at (Wd := (wX0 G (ado 2) ftrial_)) hE (hP.subm [15, 16, 17, 18, 19, 20, 21, 22, 23, 24, 25] rfl) (hD.sub [15, 16, 17, 18, 19, 20, 21, 22, 23, 24, 25] (by decide) rfl) hU hW⟩ rfl rfl hl.1 rfl (lv_room (Nat.le_of_ble_eq_true rfl)) dX6_mean_82 ⟨Nat.zero_le _, Nat.zero_le _⟩) hS hA hP hD (fun H locs hP hD hS => ?_)
            refine lv_pop hx hb dX6_mean_85 rfl ?_
            refine lv_iinc (v := (x7 + nI 1)) (lv' := [(7, .int (x7 + nI 1)), (5, .long (x5 + (r62 * ((r70).toInt64)))), (0, .ref (ad 0)), (1, .int x1), (2, .int x2), (3, .int x3), (4, .int x4)]) hx hb dX6_mean_86 hl (k := 6) rfl (ii_x 1 _) (by decide) rfl (fun ls hl => ?_)
            refine lv_goto (tgt := 50) hx hb dX6_mean_89 (by decide) ?_
            have hK9 := K_of hf hK
            have hK9 := hW50 _ hK9
            exact hK9 _ _ _ hP hD hS (lv_sub hl [2, 3, 4, 5, 6, 1, 0] rfl)
        · try dsimp only at hf
          show ∀ (H : Heap) (locs : List Loc) (ls : Array Slot), va_P G.1 vwCl (wX6 G ad ado f ++ (wX0 G (ado 1) fnow ++ (wX0 G (ado 2) ftrial_50))) H → va_D A (wX6 G ad ado f ++ (wX0 G (ado 1) fnow ++ (wX0 G (ado 2) ftrial_50))) → va_S A s.heap H locs → lv_has ls 8 [(3, .int x3), (4, .int x4), (5, .long y5_50)] → W p l e ({ frames := 4, cells := 0, slots := 0, locals := 110 }) s m args below meth c H locs 0 0 Q (F0 m 92 ls [])
          intro H locs ls hP hD hS hl
          refine lv_lload hx hb dX6_mean_92 (lv_at hl 2 rfl) ?_
          refine lv_bipush (v := (nI 10)) hx hb dX6_mean_94 (bi_10) ?_
          refine lv_iload_n hx hb dX6_mean_96 rfl (lv_at hl 0 rfl) ?_
          obtain ⟨r97, hc97, hf⟩ := bd_e hf
          refine cl_l_ro (Wd := (wX6 G ad ado f ++ (wX0 G (ado 1) fnow ++ (wX0 G (ado 2) ftrial_50)))) (Wc := ([] : va_W)) [] rfl (va_runS (As := [.int (nI 10), .int x3]) (rest := [.long y5_50]) hC (c_X6_raised l G (nI 10) x3 r97 hc97 _) (va_cwS 2 hts gX6_mean_X6_raised rfl rfl rfl (by decide +kernel) ⟨Nat.le_of_ble_eq_true rfl, Nat.le_of_ble_eq_true rfl⟩) ⟨Pc0_blind, fun U hU hW => Pc0_at (Wd := ([] : va_W)) hE (hP.subm [] rfl) (hD.sub [] (by decide) rfl) hU hW⟩ rfl rfl hl.1 rfl (lv_room (Nat.le_of_ble_eq_true rfl)) dX6_mean_97 ⟨Nat.zero_le _, Nat.zero_le _⟩) hS hA hP hD (fun H locs hP hD hS => ?_)
          refine lv_iload hx hb dX6_mean_100 (lv_at hl 1 rfl) ?_
          obtain ⟨r102, hc102, hf⟩ := bd_e hf
          refine cl_l_ro (Wd := (wX6 G ad ado f ++ (wX0 G (ado 1) fnow ++ (wX0 G (ado 2) ftrial_50)))) (Wc := ([] : va_W)) [] rfl (va_runS (As := [.long y5_50, .long r97, .int x4]) (rest := []) hC (c_X6_partOfFraction l G y5_50 r97 x4 r102 hc102 _) (va_cwS 3 hts gX6_mean_X6_partOfFraction rfl rfl rfl (by decide +kernel) ⟨Nat.le_of_ble_eq_true rfl, Nat.le_of_ble_eq_true rfl⟩) ⟨Pc0_blind, fun U hU hW => Pc0_at (Wd := ([] : va_W)) hE (hP.subm [] rfl) (hD.sub [] (by decide) rfl) hU hW⟩ rfl rfl hl.1 rfl (lv_room (Nat.le_of_ble_eq_true rfl)) dX6_mean_102 ⟨Nat.zero_le _, Nat.zero_le _⟩) hS hA hP hD (fun H locs hP hD hS => ?_)
          have hK9 := K0_of hf hK
          exact hRet r102 ftrial_50 _ _ _ _ hK9 dX6_mean_105 hP hD hS
      · have hf := if_t hf hc
        exact hB29 ftrial _ hf hK _ _ _ hP hD hS (lv_sub hl [] rfl)
noncomputable def p_X6_see (f : Mem) (fnow : Mem) (fsightings : Mem) (x1 : Int32) (x2 : Int32) (x3 : Int32) (x4 : Int32) : Option (Int32 × Mem) :=
  Option.bind (p_X0_hasGoose fnow x1) <| fun r5 =>
  if r5 = 0 then
    (some ((-1 : Int32), fsightings))
  else
    (Option.bind (p_X6_isOwner x2) <| fun r12 =>
     if r12 = 0 then
       (some ((-1 : Int32), fsightings))
     else
       (Option.bind (p_X6_isWithin x3 (nI 0) (nI 20)) <| fun r24 =>
        if r24 = 0 then
          (some ((-1 : Int32), fsightings))
        else
          (Option.bind (p_X6_isWithin x4 (nI 0) (nI 99)) <| fun r35 =>
           if r35 = 0 then
             (some ((-1 : Int32), fsightings))
           else
             (Option.bind (p_X3_add fsightings x1 x2 x3 x4) <| fun (r52, fsightings_52) =>
              if r52 = 0 then
                (some ((-3 : Int32), fsightings_52))
              else
                (some ((fsightings_52 0 0), fsightings_52))))))
set_option maxHeartbeats 4000000 in
set_option maxRecDepth 100000 in
theorem c_X6_see (l : Launch) (G : Gt) (ad : Nat → Nat) (ado : Nat → Nat → Nat) (f : Mem) (fnow : Mem) (fsightings : Mem) (x1 : Int32) (x2 : Int32) (x3 : Int32) (x4 : Int32) (r : Int32) (fsightingsz : Mem) (hf : p_X6_see f fnow fsightings x1 x2 x3 x4 = some (r, fsightingsz)) (sz : Nat) : Met l yX6_see wsX6_see ({ frames := 3, cells := 0, slots := 0, locals := 55 }) (Pc0 G sz [.ref (ad 0), .int x1, .int x2, .int x3, .int x4] (wX6 G ad ado f ++ (wX0 G (ado 1) fnow ++ (wX3 G (ado 8) fsightings)))) (Qi0 G (va_A (wX6 G ad ado f ++ (wX0 G (ado 1) fnow ++ (wX3 G (ado 8) fsightings))) sz) r (wX6 G ad ado f ++ (wX0 G (ado 1) fnow ++ (wX3 G (ado 8) fsightingsz)))) 0 0 (va_A (wX6 G ad ado f ++ (wX0 G (ado 1) fnow ++ (wX3 G (ado 8) fsightings))) sz) := by
  refine metP (Qf := fun A => Qi0 G A r (wX6 G ad ado f ++ (wX0 G (ado 1) fnow ++ (wX3 G (ado 8) fsightingsz)))) cX6_see 5 (some .int) (by decide) rfl (Nat.le_of_ble_eq_true rfl) ?_
  intro p e s m below meth c A ls hC hr hlocks hin hE hA hsz hP hD hS hl
  generalize hargs : ([.ref (ad 0), .int x1, .int x2, .int x3, .int x4] : List Value).toArray = args at hC ⊢
  obtain ⟨hx, hb, hml, hown, hts⟩ := id hC
  have hT : va_K G.1 vwCl (tyL G) s := hE.1
  have hRet : ∀ (r9 : Int32) (fsightings9 : Mem) (H : Heap) (locs : List Loc) (ls : Array Slot) (pc : Nat) (hK9 : (r9, fsightings9) = (r, fsightingsz)) (hdg : decode cX6_see pc = .ok (.ireturn, 1)), va_P G.1 vwCl (wX6 G ad ado f ++ (wX0 G (ado 1) fnow ++ (wX3 G (ado 8) fsightings9))) H → va_D A (wX6 G ad ado f ++ (wX0 G (ado 1) fnow ++ (wX3 G (ado 8) fsightings9))) → va_S A s.heap H locs → W p l e ({ frames := 3, cells := 0, slots := 0, locals := 55 }) s m args below meth c H locs 0 0 (MQ below (Qi0 G A r (wX6 G ad ado f ++ (wX0 G (ado 1) fnow ++ (wX3 G (ado 8) fsightingsz)))) args s 0 0 A) (F0 m pc ls [.int r9]) := by
    intro r9 fsightings9 H locs ls pc hK9 hdg hP hD hS
    cases hK9
    exact W.iret hx hb hr (fun t ht hW => ⟨⟨r, (), rfl, rfl, by rw [ht]; exact hP, hD⟩, hS.F ht⟩) hS.2.2 hdg hlocks
  generalize MQ below (Qi0 G A r (wX6 G ad ado f ++ (wX0 G (ado 1) fnow ++ (wX3 G (ado 8) fsightingsz)))) args s 0 0 A = Q at hRet ⊢
  have lk12 := hts (.fieldLink RX6 12 "FeatherShares" "now" "LFeatherShares$Flock;") (by decide +kernel)
  have inX6 : ∀ w ∈ u_ws RX6 TX6 11, w ∈ wsX6_see := by decide +kernel
  have lk44 := hts (.fieldLink RX6 44 "FeatherShares" "sightings" "LFeatherShares$Sightings;") (by decide +kernel)
  have lk97 := va_Nw.use (A := args) rfl (hE.2.1 (RX6, 97, "FeatherShares$Sightings", "size", "I", "FeatherShares") (List.mem_of_getElem? (i := 4) rfl))
  have inX3 : ∀ w ∈ u_ws RX3 TX3 5, w ∈ wsX6_see := by decide +kernel
  have hl : lv_has ls 5 [(0, .ref (ad 0)), (1, .int x1), (2, .int x2), (3, .int x3), (4, .int x4)] := hl
  have hK0 : (r, fsightingsz) = (r, fsightingsz) := rfl
  obtain ⟨res, hres, hK⟩ : ∃ res, p_X6_see f fnow fsightings x1 x2 x3 x4 = some res ∧ res = (r, fsightingsz) := ⟨_, hf, rfl⟩
  clear hf
  have hf := hres
  clear hres
  unfold p_X6_see at hf
  refine lv_aload_n hx hb dX6_see_0 rfl (lv_at hl 0 rfl) ?_
  refine va_get (C := RX6) (T := TX6) (N := 11) (ci := 6) (v := .ref ((ado 1) 0)) hx hb hts inX6 hown hT hP 0 rfl rfl 0 (Nat.le_of_ble_eq_true rfl) lk12 (fun _ h => h) rfl dX6_see_1 ?_
  refine lv_iload_n hx hb dX6_see_4 rfl (lv_at hl 1 rfl) ?_
  obtain ⟨r5, hc5, hf⟩ := bd_e hf
  refine cl_z_ro (Wd := (wX6 G ad ado f ++ (wX0 G (ado 1) fnow ++ (wX3 G (ado 8) fsightings)))) (Wc := (wX0 G (ado 1) fnow)) [4, 5, 6, 7, 8, 9, 10, 11, 12, 13, 14] rfl (va_runVN (As := [.int x1]) (rest := []) hC (c_X0_hasGoose l G (ado 1) fnow x1 r5 hc5 _) ⟨va_cnB 1 hts gX6_see_X0_hasGoose_n126 rfl rfl rfl (hE.2.2 (RX6, 126, yX0_hasGoose, "FeatherShares") (List.mem_of_getElem? (i := 10) rfl)) (hts (.initialized RX0) (by decide +kernel)) (by decide +kernel) ⟨Nat.le_of_ble_eq_true rfl, Nat.le_of_ble_eq_true rfl⟩, hts (.instanceMethod yX0_hasGoose) (by decide +kernel), hts (.selects RX0 yX0_hasGoose yX0_hasGoose) (by decide +kernel)⟩ ⟨Pc0_blind, va_recv hT hP (q0 := 4) (ci := 0) rfl rfl, fun U hU hW => Pc0_at (Wd := (wX0 G (ado 1) fnow)) hE (hP.subm [4, 5, 6, 7, 8, 9, 10, 11, 12, 13, 14] rfl) (hD.sub [4, 5, 6, 7, 8, 9, 10, 11, 12, 13, 14] (by decide) rfl) hU hW⟩ rfl rfl hl.1 rfl (lv_room (Nat.le_of_ble_eq_true rfl)) dX6_see_5 ⟨Nat.zero_le _, Nat.zero_le _⟩) hS hA hP hD (fun H locs hn5 hP hD hS => ?_)
  refine lv_if_eq (tgt := 18) hx hb dX6_see_8 (by decide) (fun hc => ?_) (fun hc => ?_)
  · have hf := if_t hf hc
    refine lv_iconst (v := (-1 : Int32)) hx hb dX6_see_18 (ic_m1) ?_
    have hK9 := K0_of hf hK
    exact hRet (-1 : Int32) fsightings _ _ _ _ hK9 dX6_see_19 hP hD hS
  · have hf := if_f hf hc
    refine lv_iload_n hx hb dX6_see_11 rfl (lv_at hl 2 rfl) ?_
    obtain ⟨r12, hc12, hf⟩ := bd_e hf
    refine cl_z_ro (Wd := (wX6 G ad ado f ++ (wX0 G (ado 1) fnow ++ (wX3 G (ado 8) fsightings)))) (Wc := ([] : va_W)) [] rfl (va_runS (As := [.int x2]) (rest := []) hC (c_X6_isOwner l G x2 r12 hc12 _) (va_cwS 1 hts gX6_see_X6_isOwner rfl rfl rfl (by decide +kernel) ⟨Nat.le_of_ble_eq_true rfl, Nat.le_of_ble_eq_true rfl⟩) ⟨Pc0_blind, fun U hU hW => Pc0_at (Wd := ([] : va_W)) hE (hP.subm [] rfl) (hD.sub [] (by decide) rfl) hU hW⟩ rfl rfl hl.1 rfl (lv_room (Nat.le_of_ble_eq_true rfl)) dX6_see_12 ⟨Nat.zero_le _, Nat.zero_le _⟩) hS hA hP hD (fun H locs hn12 hP hD hS => ?_)
    refine lv_if_ne (tgt := 20) hx hb dX6_see_15 (by decide) (fun hc => ?_) (fun hc => ?_)
    · have hf := if_f hf hc
      refine lv_iload_n hx hb dX6_see_20 rfl (lv_at hl 3 rfl) ?_
      refine lv_iconst (v := (nI 0)) hx hb dX6_see_21 (ic_0) ?_
      refine lv_bipush (v := (nI 20)) hx hb dX6_see_22 (bi_20) ?_
      obtain ⟨r24, hc24, hf⟩ := bd_e hf
      refine cl_z_ro (Wd := (wX6 G ad ado f ++ (wX0 G (ado 1) fnow ++ (wX3 G (ado 8) fsightings)))) (Wc := ([] : va_W)) [] rfl (va_runS (As := [.int x3, .int (nI 0), .int (nI 20)]) (rest := []) hC (c_X6_isWithin l G x3 (nI 0) (nI 20) r24 hc24 _) (va_cwS 3 hts gX6_see_X6_isWithin rfl rfl rfl (by decide +kernel) ⟨Nat.le_of_ble_eq_true rfl, Nat.le_of_ble_eq_true rfl⟩) ⟨Pc0_blind, fun U hU hW => Pc0_at (Wd := ([] : va_W)) hE (hP.subm [] rfl) (hD.sub [] (by decide) rfl) hU hW⟩ rfl rfl hl.1 rfl (lv_room (Nat.le_of_ble_eq_true rfl)) dX6_see_24 ⟨Nat.zero_le _, Nat.zero_le _⟩) hS hA hP hD (fun H locs hn24 hP hD hS => ?_)
      refine lv_if_eq (tgt := 41) hx hb dX6_see_27 (by decide) (fun hc => ?_) (fun hc => ?_)
      · have hf := if_t hf hc
        refine lv_iconst (v := (-1 : Int32)) hx hb dX6_see_41 (ic_m1) ?_
        have hK9 := K0_of hf hK
        exact hRet (-1 : Int32) fsightings _ _ _ _ hK9 dX6_see_42 hP hD hS
      · have hf := if_f hf hc
        refine lv_iload hx hb dX6_see_30 (lv_at hl 4 rfl) ?_
        refine lv_iconst (v := (nI 0)) hx hb dX6_see_32 (ic_0) ?_
        refine lv_bipush (v := (nI 99)) hx hb dX6_see_33 (bi_99) ?_
        obtain ⟨r35, hc35, hf⟩ := bd_e hf
        refine cl_z_ro (Wd := (wX6 G ad ado f ++ (wX0 G (ado 1) fnow ++ (wX3 G (ado 8) fsightings)))) (Wc := ([] : va_W)) [] rfl (va_runS (As := [.int x4, .int (nI 0), .int (nI 99)]) (rest := []) hC (c_X6_isWithin l G x4 (nI 0) (nI 99) r35 hc35 _) (va_cwS 3 hts gX6_see_X6_isWithin rfl rfl rfl (by decide +kernel) ⟨Nat.le_of_ble_eq_true rfl, Nat.le_of_ble_eq_true rfl⟩) ⟨Pc0_blind, fun U hU hW => Pc0_at (Wd := ([] : va_W)) hE (hP.subm [] rfl) (hD.sub [] (by decide) rfl) hU hW⟩ rfl rfl hl.1 rfl (lv_room (Nat.le_of_ble_eq_true rfl)) dX6_see_35 ⟨Nat.zero_le _, Nat.zero_le _⟩) hS hA hP hD (fun H locs hn35 hP hD hS => ?_)
        refine lv_if_ne (tgt := 43) hx hb dX6_see_38 (by decide) (fun hc => ?_) (fun hc => ?_)
        · have hf := if_f hf hc
          refine lv_aload_n hx hb dX6_see_43 rfl (lv_at hl 0 rfl) ?_
          refine va_get (C := RX6) (T := TX6) (N := 11) (ci := 6) (v := .ref ((ado 8) 0)) hx hb hts inX6 hown hT hP 0 rfl rfl 6 (Nat.le_of_ble_eq_true rfl) lk44 (fun _ h => h) rfl dX6_see_44 ?_
          refine lv_iload_n hx hb dX6_see_47 rfl (lv_at hl 1 rfl) ?_
          refine lv_iload_n hx hb dX6_see_48 rfl (lv_at hl 2 rfl) ?_
          refine lv_iload_n hx hb dX6_see_49 rfl (lv_at hl 3 rfl) ?_
          refine lv_iload hx hb dX6_see_50 (lv_at hl 4 rfl) ?_
          obtain ⟨⟨r52, fsightings_52⟩, hc52, hf⟩ := bd_e hf
          try dsimp only at hf
          refine cl_z_up (Wd := (wX6 G ad ado f ++ (wX0 G (ado 1) fnow ++ (wX3 G (ado 8) fsightings)))) (Wc := (wX3 G (ado 8) fsightings)) (W' := (wX3 G (ado 8) fsightings_52)) (W2 := (wX6 G ad ado f ++ (wX0 G (ado 1) fnow ++ (wX3 G (ado 8) fsightings_52)))) (Wr := (wX6 G ad ado f ++ (wX0 G (ado 1) fnow))) [15, 16, 17, 18, 19] [0, 1, 2, 3, 4, 5, 6, 7, 8, 9, 10, 11, 12, 13, 14] rfl rfl rfl rfl rfl rfl (va_runVN (As := [.int x1, .int x2, .int x3, .int x4]) (rest := []) hC (c_X3_add l G (ado 8) fsightings x1 x2 x3 x4 r52 fsightings_52 hc52 _) ⟨va_cnB 4 hts gX6_see_X3_add_n264 rfl rfl rfl (hE.2.2 (RX6, 264, yX3_add, "FeatherShares") (List.mem_of_getElem? (i := 30) rfl)) (hts (.initialized RX3) (by decide +kernel)) (by decide +kernel) ⟨Nat.le_of_ble_eq_true rfl, Nat.le_of_ble_eq_true rfl⟩, hts (.instanceMethod yX3_add) (by decide +kernel), hts (.selects RX3 yX3_add yX3_add) (by decide +kernel)⟩ ⟨Pc0_blind, va_recv hT hP (q0 := 15) (ci := 3) rfl rfl, fun U hU hW => Pc0_at (Wd := (wX3 G (ado 8) fsightings)) hE (hP.subm [15, 16, 17, 18, 19] rfl) (hD.sub [15, 16, 17, 18, 19] (by decide) rfl) hU hW⟩ rfl rfl hl.1 rfl (lv_room (Nat.le_of_ble_eq_true rfl)) dX6_see_52 ⟨Nat.zero_le _, Nat.zero_le _⟩) hS hA hP hD (fun H locs hn52 hP hD hS => ?_)
          refine lv_if_eq (tgt := 68) hx hb dX6_see_55 (by decide) (fun hc => ?_) (fun hc => ?_)
          · have hf := if_t hf hc
            refine lv_bipush (v := (-3 : Int32)) hx hb dX6_see_68 (bi_m3) ?_
            have hK9 := K0_of hf hK
            exact hRet (-3 : Int32) fsightings_52 _ _ _ _ hK9 dX6_see_70 hP hD hS
          · have hf := if_f hf hc
            refine lv_aload_n hx hb dX6_see_58 rfl (lv_at hl 0 rfl) ?_
            refine va_get (C := RX6) (T := TX6) (N := 11) (ci := 6) (v := .ref ((ado 8) 0)) hx hb hts inX6 hown hT hP 0 rfl rfl 6 (Nat.le_of_ble_eq_true rfl) lk44 (fun _ h => h) rfl dX6_see_59 ?_
            refine va_getN (C := RX3) (T := TX3) (N := 5) (ci := 3) (v := .int (fsightings_52 0 0)) hx hb hts inX3 hown hT hP 15 rfl rfl 0 (Nat.le_of_ble_eq_true rfl) lk97 (fun _ h => h) rfl dX6_see_62 ?_
            refine lv_goto (tgt := 70) hx hb dX6_see_65 (by decide) ?_
            have hK9 := K0_of hf hK
            exact hRet (fsightings_52 0 0) fsightings_52 _ _ _ _ hK9 dX6_see_70 hP hD hS
        · have hf := if_t hf hc
          refine lv_iconst (v := (-1 : Int32)) hx hb dX6_see_41 (ic_m1) ?_
          have hK9 := K0_of hf hK
          exact hRet (-1 : Int32) fsightings _ _ _ _ hK9 dX6_see_42 hP hD hS
    · have hf := if_t hf hc
      refine lv_iconst (v := (-1 : Int32)) hx hb dX6_see_18 (ic_m1) ?_
      have hK9 := K0_of hf hK
      exact hRet (-1 : Int32) fsightings _ _ _ _ hK9 dX6_see_19 hP hD hS

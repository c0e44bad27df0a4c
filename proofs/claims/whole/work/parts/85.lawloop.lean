/-! ===== the law's loop ===== -/
theorem and63 (x : Int32) : ∃ k, k < 64 ∧ x &&& nI 63 = nI k := by
  refine ⟨(x.toBitVec &&& 63#32).toNat, ?_, Int32.toBitVec_inj.1 ?_⟩
  · rw [BitVec.toNat_and]
    exact Nat.lt_of_le_of_lt Nat.and_le_right (by decide)
  · show x.toBitVec &&& BitVec.ofNat 32 63 = BitVec.ofNat 32 _
    rw [BitVec.ofNat_toNat, BitVec.setWidth_eq]
theorem goes_on {i L : Nat} (hL : L ≤ 384) (hi : i ≤ L) (h : ¬ nI L - nI 6 < nI i) : i + 6 ≤ L := by
  by_cases h6 : 6 ≤ L
  · rw [pk_sub h6] at h
    by_cases hc : i + 6 ≤ L
    · exact hc
    · exact absurd ((nI_ltI (by omega) (by omega)).mpr (by omega)) h
  · exfalso
    have h1 : nI L - nI 6 < 0 := pk_sneg (by omega) (by omega)
    have h2 : (0 : Int32) ≤ nI i := (nI_leI (a := 0) (by decide) (by omega)).mpr (Nat.zero_le _)
    exact h (Int32.lt_of_lt_of_le h1 h2)
set_option maxHeartbeats 8000000 in
set_option maxRecDepth 100000 in
theorem law_loop {p : Program} {l : Launch} {e : Env} {s : State} {m : MethodId} {below : List Frame} {meth : Method} {c : Code} {G : Gt} {ad ad7 : Nat → Nat} {ado : Nat → Nat → Nat} {sk sv : Nat → Nat} {b L : Nat} {xs : Nat → Int32} (hC : CallFix p m c cL_law 4 s #[Value.ref b] wsL_law RL) (hr : meth.sig.returnType = ret) (hlocks : meth.locks = false) (hE : EV G s) (hZ : SV sk sv (fun q : Nat => s.heap.size ≤ q) s s.heap) (hX : va_X b L xs s s.heap) (hbl : b < s.heap.size) (hL : L ≤ 384) :
    ∀ (n i : Nat), L + 1 ≤ i + n → i ≤ L → ∀ (x0 x1 x2 x3 x4 x5 x6 x7 x8 x9 x10 x11 x12 x13 x14 g : Mem) (H : Heap) (locs : List Loc) (ls : Array Slot), Rel x0 x1 x3 x4 x5 x6 x8 x11 x12 x13 x14 g → va_P G.1 vwCl (WL G ad ado ad7 x0 x1 x2 x3 x4 x5 x6 x7 x8 x9 x10 x11 x12 x13 x14 g) H → va_D (fun q : Nat => s.heap.size ≤ q) (WL G ad ado ad7 x0 x1 x2 x3 x4 x5 x6 x7 x8 x9 x10 x11 x12 x13 x14 g) → va_S (fun q : Nat => s.heap.size ≤ q) s.heap H locs → lv_has ls 4 [(0, .ref b), (1, .ref (ad 0)), (2, .ref (ad7 0)), (3, .int (nI i))] → W p l e room_1 s m #[Value.ref b] below meth c H locs 100 2657 (lw_Z below #[Value.ref b] s) (F0 m 18 ls []) := by
  have hbA : ¬ (fun q : Nat => s.heap.size ≤ q) b := Nat.not_le.mpr hbl
  obtain ⟨hx, hb, hml, hown, hts⟩ := id hC
  intro n
  induction n with
  | zero =>
    intro i h1 h2
    exact absurd h1 (by omega)
  | succ n ih =>
    intro i hin hiL x0 x1 x2 x3 x4 x5 x6 x7 x8 x9 x10 x11 x12 x13 x14 g H locs ls Rr hP hD hS hl
    refine lv_iload_n hx hb dL_law_18 rfl (lv_at hl 3 rfl) ?_
    refine lv_aload_n hx hb dL_law_19 rfl (lv_at hl 0 rfl) ?_
    refine va_slen hx hb hX hbl hbA hS dL_law_20 ?_
    refine lv_bipush (v := nI 6) hx hb dL_law_21 (bi_6) ?_
    refine lv_isub hx hb dL_law_23 ?_
    refine lv_icmp_gt (tgt := 1772) hx hb dL_law_24 (by decide) (fun _ => ?_) (fun hc => ?_)
    · refine lv_iconst (v := 1) hx hb dL_law_1772 (by decide) ?_
      refine va_forget (fun q hq => hS.2.2 q hq) ?_
      refine W.widen (k := 600000) (n := 7302250) (Nat.le_of_ble_eq_true rfl) (Nat.le_of_ble_eq_true rfl) ?_
      exact lw_ret hx hb hr hlocks dL_law_1773
    · have hi6 : i + 6 ≤ L := goes_on hL hiL hc
      have hn0 : vp_in (nI i) L := vp_in_nI (by omega) (by omega)
      refine lv_aload_n hx hb dL_law_27 rfl (lv_at hl 0 rfl) ?_
      refine lv_iload_n hx hb dL_law_28 rfl (lv_at hl 3 rfl) ?_
      refine va_sld hx hb hX hbl hbA hS hn0 dL_law_29 ?_
      refine lv_bipush (v := nI 63) hx hb dL_law_30 (bi_63) ?_
      refine lv_iand hx hb dL_law_32 ?_
      obtain ⟨k, hk, ek⟩ := and63 (xs (nI i).toNatClampNeg)
      rw [ek]
      have kk : GoOn p l e s m #[Value.ref b] below meth c G ad ado ad7 ls (lw_Z below #[Value.ref b] s) := by
        intro x0 x1 x2 x3 x4 x5 x6 x7 x8 x9 x10 x11 x12 x13 x14 g H locs Rr hP hD hS
        refine lv_iinc (v := nI (i + 6)) (lv' := [(3, .int (nI (i + 6))), (0, .ref b), (1, .ref (ad 0)), (2, .ref (ad7 0))]) hx hb dL_law_1766 hl (k := 3) rfl ((ii_x 6 _).trans (nI_add _ _)) (by decide) rfl (fun ls hl => ?_)
        refine lv_goto (tgt := 18) hx hb dL_law_1769 (by decide) ?_
        exact ih (i + 6) (by omega) hi6 x0 x1 x2 x3 x4 x5 x6 x7 x8 x9 x10 x11 x12 x13 x14 g H locs ls Rr hP hD hS (lv_sub hl [1, 2, 3, 0] rfl)
      by_cases h45 : k < 45
      · rcases (show k = 0 ∨ k = 1 ∨ k = 2 ∨ k = 3 ∨ k = 4 ∨ k = 5 ∨ k = 6 ∨ k = 7 ∨ k = 8 ∨ k = 9 ∨ k = 10 ∨ k = 11 ∨ k = 12 ∨ k = 13 ∨ k = 14 ∨ k = 15 ∨ k = 16 ∨ k = 17 ∨ k = 18 ∨ k = 19 ∨ k = 20 ∨ k = 21 ∨ k = 22 ∨ k = 23 ∨ k = 24 ∨ k = 25 ∨ k = 26 ∨ k = 27 ∨ k = 28 ∨ k = 29 ∨ k = 30 ∨ k = 31 ∨ k = 32 ∨ k = 33 ∨ k = 34 ∨ k = 35 ∨ k = 36 ∨ k = 37 ∨ k = 38 ∨ k = 39 ∨ k = 40 ∨ k = 41 ∨ k = 42 ∨ k = 43 ∨ k = 44 by omega) with rfl | rfl | rfl | rfl | rfl | rfl | rfl | rfl | rfl | rfl | rfl | rfl | rfl | rfl | rfl | rfl | rfl | rfl | rfl | rfl | rfl | rfl | rfl | rfl | rfl | rfl | rfl | rfl | rfl | rfl | rfl | rfl | rfl | rfl | rfl | rfl | rfl | rfl | rfl | rfl | rfl | rfl | rfl | rfl | rfl
        · exact lv_tableIn (off := 195) (tgt := 228) hx hb dL_law_33 (by decide) (by decide) (by decide +kernel) (by decide) (law_feed hC hE hZ hX hbl hi6 hL Rr hP hD hS hl kk)
        · exact lv_tableIn (off := 218) (tgt := 251) hx hb dL_law_33 (by decide) (by decide) (by decide +kernel) (by decide) (law_end hC hE hZ hX hbl hi6 hL Rr hP hD hS hl kk)
        · exact lv_tableIn (off := 241) (tgt := 274) hx hb dL_law_33 (by decide) (by decide) (by decide +kernel) (by decide) (law_text hC hE hZ hX hbl hi6 hL Rr hP hD hS hl kk)
        · exact lv_tableIn (off := 254) (tgt := 287) hx hb dL_law_33 (by decide) (by decide) (by decide +kernel) (by decide) (law_fault hC hE hZ hX hbl hi6 hL Rr hP hD hS hl kk)
        · exact lv_tableIn (off := 267) (tgt := 300) hx hb dL_law_33 (by decide) (by decide) (by decide +kernel) (by decide) (law_rule hC hE hZ hX hbl hi6 hL Rr hP hD hS hl kk)
        · exact lv_tableIn (off := 290) (tgt := 323) hx hb dL_law_33 (by decide) (by decide) (by decide +kernel) (by decide) (law_goose hC hE hZ hX hbl hi6 hL Rr hP hD hS hl kk)
        · exact lv_tableIn (off := 323) (tgt := 356) hx hb dL_law_33 (by decide) (by decide) (by decide +kernel) (by decide) (law_owner hC hE hZ hX hbl hi6 hL Rr hP hD hS hl kk)
        · exact lv_tableIn (off := 356) (tgt := 389) hx hb dL_law_33 (by decide) (by decide) (by decide +kernel) (by decide) (law_share hC hE hZ hX hbl hi6 hL Rr hP hD hS hl kk)
        · exact lv_tableIn (off := 389) (tgt := 422) hx hb dL_law_33 (by decide) (by decide) (by decide +kernel) (by decide) (law_trade hC hE hZ hX hbl hi6 hL Rr hP hD hS hl kk)
        · exact lv_tableIn (off := 422) (tgt := 455) hx hb dL_law_33 (by decide) (by decide) (by decide +kernel) (by decide) (law_alter hC hE hZ hX hbl hi6 hL Rr hP hD hS hl kk)
        · exact lv_tableIn (off := 465) (tgt := 498) hx hb dL_law_33 (by decide) (by decide) (by decide +kernel) (by decide) (law_purse hC hE hZ hX hbl hi6 hL Rr hP hD hS hl kk)
        · exact lv_tableIn (off := 498) (tgt := 531) hx hb dL_law_33 (by decide) (by decide) (by decide +kernel) (by decide) (law_grant hC hE hZ hX hbl hi6 hL Rr hP hD hS hl kk)
        · exact lv_tableIn (off := 541) (tgt := 574) hx hb dL_law_33 (by decide) (by decide) (by decide +kernel) (by decide) (law_plan hC hE hZ hX hbl hi6 hL Rr hP hD hS hl kk)
        · exact lv_tableIn (off := 594) (tgt := 627) hx hb dL_law_33 (by decide) (by decide) (by decide +kernel) (by decide) (law_cut hC hE hZ hX hbl hi6 hL Rr hP hD hS hl kk)
        · exact lv_tableIn (off := 617) (tgt := 650) hx hb dL_law_33 (by decide) (by decide) (by decide +kernel) (by decide) (law_buy hC hE hZ hX hbl hi6 hL Rr hP hD hS hl kk)
        · exact lv_tableIn (off := 670) (tgt := 703) hx hb dL_law_33 (by decide) (by decide) (by decide +kernel) (by decide) (law_pluck hC hE hZ hX hbl hi6 hL Rr hP hD hS hl kk)
        · exact lv_tableIn (off := 723) (tgt := 756) hx hb dL_law_33 (by decide) (by decide) (by decide +kernel) (by decide) (law_weeks hC hE hZ hX hbl hi6 hL Rr hP hD hS hl kk)
        · exact lv_tableIn (off := 746) (tgt := 779) hx hb dL_law_33 (by decide) (by decide) (by decide +kernel) (by decide) (law_runs hC hE hZ hX hbl hi6 hL Rr hP hD hS hl kk)
        · exact lv_tableIn (off := 769) (tgt := 802) hx hb dL_law_33 (by decide) (by decide) (by decide +kernel) (by decide) (law_ahead hC hE hZ hX hbl hi6 hL Rr hP hD hS hl kk)
        · exact lv_tableIn (off := 802) (tgt := 835) hx hb dL_law_33 (by decide) (by decide) (by decide +kernel) (by decide) (law_later hC hE hZ hX hbl hi6 hL Rr hP hD hS hl kk)
        · exact lv_tableIn (off := 845) (tgt := 878) hx hb dL_law_33 (by decide) (by decide) (by decide +kernel) (by decide) (law_eggs hC hE hZ hX hbl hi6 hL Rr hP hD hS hl kk)
        · exact lv_tableIn (off := 878) (tgt := 911) hx hb dL_law_33 (by decide) (by decide) (by decide +kernel) (by decide) (law_bare hC hE hZ hX hbl hi6 hL Rr hP hD hS hl kk)
        · exact lv_tableIn (off := 911) (tgt := 944) hx hb dL_law_33 (by decide) (by decide) (by decide +kernel) (by decide) (law_rich hC hE hZ hX hbl hi6 hL Rr hP hD hS hl kk)
        · exact lv_tableIn (off := 944) (tgt := 977) hx hb dL_law_33 (by decide) (by decide) (by decide +kernel) (by decide) (law_turn hC hE hZ hX hbl hi6 hL Rr hP hD hS hl kk)
        · exact lv_tableIn (off := 967) (tgt := 1000) hx hb dL_law_33 (by decide) (by decide) (by decide +kernel) (by decide) (law_need hC hE hZ hX hbl hi6 hL Rr hP hD hS hl kk)
        · exact lv_tableIn (off := 1010) (tgt := 1043) hx hb dL_law_33 (by decide) (by decide) (by decide +kernel) (by decide) (law_best hC hE hZ hX hbl hi6 hL Rr hP hD hS hl kk)
        · exact lv_tableIn (off := 1053) (tgt := 1086) hx hb dL_law_33 (by decide) (by decide) (by decide +kernel) (by decide) (law_leave hC hE hZ hX hbl hi6 hL Rr hP hD hS hl kk)
        · exact lv_tableIn (off := 1086) (tgt := 1119) hx hb dL_law_33 (by decide) (by decide) (by decide +kernel) (by decide) (law_swings hC hE hZ hX hbl hi6 hL Rr hP hD hS hl kk)
        · exact lv_tableIn (off := 1119) (tgt := 1152) hx hb dL_law_33 (by decide) (by decide) (by decide +kernel) (by decide) (law_power hC hE hZ hX hbl hi6 hL Rr hP hD hS hl kk)
        · exact lv_tableIn (off := 1163) (tgt := 1196) hx hb dL_law_33 (by decide) (by decide) (by decide +kernel) (by decide) (law_reign hC hE hZ hX hbl hi6 hL Rr hP hD hS hl kk)
        · exact lv_tableIn (off := 1196) (tgt := 1229) hx hb dL_law_33 (by decide) (by decide) (by decide +kernel) (by decide) (law_luck hC hE hZ hX hbl hi6 hL Rr hP hD hS hl kk)
        · exact lv_tableIn (off := 1260) (tgt := 1293) hx hb dL_law_33 (by decide) (by decide) (by decide +kernel) (by decide) (law_mean hC hE hZ hX hbl hi6 hL Rr hP hD hS hl kk)
        · exact lv_tableIn (off := 1314) (tgt := 1347) hx hb dL_law_33 (by decide) (by decide) (by decide +kernel) (by decide) (law_see hC hE hZ hX hbl hi6 hL Rr hP hD hS hl kk)
        · exact lv_tableIn (off := 1367) (tgt := 1400) hx hb dL_law_33 (by decide) (by decide) (by decide +kernel) (by decide) (law_forget hC hE hZ hX hbl hi6 hL Rr hP hD hS hl kk)
        · exact lv_tableIn (off := 1390) (tgt := 1423) hx hb dL_law_33 (by decide) (by decide) (by decide +kernel) (by decide) (law_kinds hC hE hZ hX hbl hi6 hL Rr hP hD hS hl kk)
        · exact lv_tableIn (off := 1413) (tgt := 1446) hx hb dL_law_33 (by decide) (by decide) (by decide +kernel) (by decide) (law_skins hC hE hZ hX hbl hi6 hL Rr hP hD hS hl kk)
        · exact lv_tableIn (off := 1436) (tgt := 1469) hx hb dL_law_33 (by decide) (by decide) (by decide +kernel) (by decide) (law_look hC hE hZ hX hbl hi6 hL Rr hP hD hS hl kk)
        · exact lv_tableIn (off := 1469) (tgt := 1502) hx hb dL_law_33 (by decide) (by decide) (by decide +kernel) (by decide) (law_drift hC hE hZ hX hbl hi6 hL Rr hP hD hS hl kk)
        · exact lv_tableIn (off := 1512) (tgt := 1545) hx hb dL_law_33 (by decide) (by decide) (by decide +kernel) (by decide) (law_keep hC hE hZ hX hbl hi6 hL Rr hP hD hS hl kk)
        · exact lv_tableIn (off := 1535) (tgt := 1568) hx hb dL_law_33 (by decide) (by decide) (by decide +kernel) (by decide) (law_back hC hE hZ hX hbl hi6 hL Rr hP hD hS hl kk)
        · exact lv_tableIn (off := 1558) (tgt := 1591) hx hb dL_law_33 (by decide) (by decide) (by decide +kernel) (by decide) (law_sheet hC hE hZ hX hbl hi6 hL Rr hP hD hS hl kk)
        · exact lv_tableIn (off := 1601) (tgt := 1634) hx hb dL_law_33 (by decide) (by decide) (by decide +kernel) (by decide) (law_lay hC hE hZ hX hbl hi6 hL Rr hP hD hS hl kk)
        · exact lv_tableIn (off := 1644) (tgt := 1677) hx hb dL_law_33 (by decide) (by decide) (by decide +kernel) (by decide) (law_read hC hE hZ hX hbl hi6 hL Rr hP hD hS hl kk)
        · exact lv_tableIn (off := 1697) (tgt := 1730) hx hb dL_law_33 (by decide) (by decide) (by decide +kernel) (by decide) (law_torn hC hE hZ hX hbl hi6 hL Rr hP hD hS hl kk)
        · exact lv_tableIn (off := 1710) (tgt := 1743) hx hb dL_law_33 (by decide) (by decide) (by decide +kernel) (by decide) (law_count hC hE hZ hX hbl hi6 hL Rr hP hD hS hl kk)
      · exact lv_tableOut (tgt := 1766) hx hb dL_law_33 (Or.inr (by rw [nI_toInt (by omega)]; omega)) (by decide) (kk x0 x1 x2 x3 x4 x5 x6 x7 x8 x9 x10 x11 x12 x13 x14 g H locs Rr hP hD hS)

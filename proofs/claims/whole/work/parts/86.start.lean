/-! ===== the law, from its entry ===== -/
set_option maxHeartbeats 8000000 in
set_option maxRecDepth 100000 in
/-- THE LAW, from its entry -/
theorem whole_start {p : Program} {e : Env} {s : State} {m : MethodId} {below : List Frame} {meth : Method} {c : Code} (l : Launch) (hflags : l.flags = flags0) {b L : Nat} {xs : Nat → Int32} (hL : L ≤ 384) (C0 : lw_At p s m meth c b L xs) : W p l e room_1 s m #[Value.ref b] below meth c s.heap [] 0 0 (lw_Z below #[Value.ref b] s) (entryFrame m ([Value.ref b] : List Value).toArray 4) := by
  obtain ⟨hx, hb, hr, hml, hown, htt, hX, hbl, hlocks, hgv⟩ := id C0
  have hA : ∀ q : Nat, s.heap.size ≤ q → (fun q : Nat => s.heap.size ≤ q) q := fun _ h => h
  obtain ⟨G, hE⟩ := EV_of htt
  obtain ⟨sk, sv, hZ⟩ := SV_of (A := fun q : Nat => s.heap.size ≤ q) htt hgv (fun a h => Nat.not_le.mpr h)
  have hO : va_AO RX0 s := va_AO.of (htt (.arrayOver (.object RX0)) (by decide +kernel))
  have hO2 : va_AO RX2 s := va_AO.of (htt (.arrayOver (.object RX2)) (by decide +kernel))
  have hts : ∀ w ∈ wsL_law, w.before #[Value.ref b] s = true := fun w h => htt w (wsL_law_in w h)
  have hC : CallFix p m c cL_law 4 s #[Value.ref b] wsL_law RL := ⟨hx, hb, hml, hown, hts⟩
  have hT : va_K G.1 vwCl (tyL G) s := hE.1
  have hS : va_S (fun q : Nat => s.heap.size ≤ q) s.heap s.heap [] := va_S.rf
  have hP : va_P G.1 vwCl ([] : va_W) s.heap := fun k q h => by simp at h
  have hD : va_D (fun q : Nat => s.heap.size ≤ q) ([] : va_W) := ⟨fun i j p q h => by simp at h, fun k q h => by simp at h⟩
  have hl := lv_entry ([.ref b]) (n := 4) (Nat.le_of_ble_eq_true rfl)
  rw [lg_entry_eq]
  generalize (lg_sl ([.ref b]) ++ List.replicate (4 - (lg_sl ([.ref b])).length) Slot.unset).toArray = ls at hl ⊢
  have hl : lv_has ls 4 [(0, .ref b)] := hl
  refine va_new (ci := 6) (fs := [.null, .null, .null, .int 0, .null, .null, .null, .null, .null, .null, .int 0]) (C := RX6) (T := TX6) (N := 11) hx hb hts inlX6 tyX6 tyX6_ok hown (hts (.classLink RL 7 RX6) (by decide +kernel)) (hts (.instantiable RX6 11) (by decide +kernel)) (hts (.initialized RX6) (by decide +kernel)) hT hP hD hS hA rfl (fun j hj => by rcases (show j = 0 ∨ j = 1 ∨ j = 2 ∨ j = 3 ∨ j = 4 ∨ j = 5 ∨ j = 6 ∨ j = 7 ∨ j = 8 ∨ j = 9 ∨ j = 10 by omega) with rfl | rfl | rfl | rfl | rfl | rfl | rfl | rfl | rfl | rfl | rfl <;> rfl) (Nat.le_of_ble_eq_true rfl) (Nat.le_of_ble_eq_true rfl) dL_law_0 (fun q6 H hP hD hS => ?_)
  refine lv_dup hx hb dL_law_3 rfl ?_
  refine cl_new (Wr := ([] : va_W)) (Wc := [(q6, .inr (6, [.null, .null, .null, .int 0, .null, .null, .null, .null, .null, .null, .int 0]))]) (va_runI (As := []) (rest := [.ref q6]) hC (c_X6_init l G q6 _) (cwI 0 hts gL_law_X6_init rfl rfl rfl (hts (.initialized RX6) (by decide +kernel)) (hts (.methodLink RL 9 yX6_init) (by decide +kernel)) (hts (.instanceMethod yX6_init) (by decide +kernel)) rfl (by decide +kernel) ⟨Nat.le_of_ble_eq_true rfl, Nat.le_of_ble_eq_true rfl⟩) ⟨Pc2_blind, fun U hU hW => Pc2_at (Wd := [(q6, .inr (6, [.null, .null, .null, .int 0, .null, .null, .null, .null, .null, .null, .int 0]))]) hE hO hO2 (hP.subm [0] rfl) (hD.sub [0] (by decide) rfl) hU hW⟩ rfl rfl hl.1 rfl (lv_room (Nat.le_of_ble_eq_true rfl)) dL_law_4 ⟨Nat.le_of_ble_eq_true rfl, Nat.le_of_ble_eq_true rfl⟩) hS hA hP hD (fun u H locs hu hPn hDn hSn => ?_)
  obtain ⟨ad, ado⟩ := u
  have hu : ad 0 = q6 := hu
  subst hu
  have hP : va_P G.1 vwCl (WX G ad ado i_XX) H := hPn
  have hD : va_D (fun q : Nat => s.heap.size ≤ q) (WX G ad ado i_XX) := hDn
  have hS := hSn
  refine lv_astore_n (lv' := [(1, .ref (ad 0)), (0, .ref b)]) hx hb dL_law_7 rfl hl (by decide) rfl (fun ls hl => ?_)
  refine va_new (ci := 7) (fs := [.null, .int 0, .null, .int 0, .int 0, .int 0, .int 0, .null, .int 0, .int 0, .int 0, .int 0, .int 0, .int 0, .int 0, .int 0, .null, .null, .int 0, .int 0, .int 0, .int 0, .int 0, .int 0, .int 0, .int 0, .null, .int 0, .null, .null, .null, .null, .null, .int 0]) (C := RX7) (T := TX7) (N := 34) hx hb hts inlX7 tyX7 tyX7_ok hown (hts (.classLink RL 10 RX7) (by decide +kernel)) (hts (.instantiable RX7 34) (by decide +kernel)) (hts (.initialized RX7) (by decide +kernel)) hT hP hD hS hA rfl (fun j hj => by rcases (show j = 0 ∨ j = 1 ∨ j = 2 ∨ j = 3 ∨ j = 4 ∨ j = 5 ∨ j = 6 ∨ j = 7 ∨ j = 8 ∨ j = 9 ∨ j = 10 ∨ j = 11 ∨ j = 12 ∨ j = 13 ∨ j = 14 ∨ j = 15 ∨ j = 16 ∨ j = 17 ∨ j = 18 ∨ j = 19 ∨ j = 20 ∨ j = 21 ∨ j = 22 ∨ j = 23 ∨ j = 24 ∨ j = 25 ∨ j = 26 ∨ j = 27 ∨ j = 28 ∨ j = 29 ∨ j = 30 ∨ j = 31 ∨ j = 32 ∨ j = 33 by omega) with rfl | rfl | rfl | rfl | rfl | rfl | rfl | rfl | rfl | rfl | rfl | rfl | rfl | rfl | rfl | rfl | rfl | rfl | rfl | rfl | rfl | rfl | rfl | rfl | rfl | rfl | rfl | rfl | rfl | rfl | rfl | rfl | rfl | rfl <;> rfl) (Nat.le_of_ble_eq_true rfl) (Nat.le_of_ble_eq_true rfl) dL_law_8 (fun q7 H hP hD hS => ?_)
  refine lv_dup hx hb dL_law_11 rfl ?_
  refine cl_new (Wr := WX G ad ado i_XX) (Wc := [(q7, .inr (7, [.null, .int 0, .null, .int 0, .int 0, .int 0, .int 0, .null, .int 0, .int 0, .int 0, .int 0, .int 0, .int 0, .int 0, .int 0, .null, .null, .int 0, .int 0, .int 0, .int 0, .int 0, .int 0, .int 0, .int 0, .null, .int 0, .null, .null, .null, .null, .null, .int 0]))]) (va_runI (As := []) (rest := [.ref q7]) hC (c_X7_init l G q7 _) (cwI 0 hts gL_law_X7_init rfl rfl rfl (hts (.initialized RX7) (by decide +kernel)) (hts (.methodLink RL 12 yX7_init) (by decide +kernel)) (hts (.instanceMethod yX7_init) (by decide +kernel)) rfl (by decide +kernel) ⟨Nat.le_of_ble_eq_true rfl, Nat.le_of_ble_eq_true rfl⟩) ⟨Pc0_blind, fun U hU hW => Pc0_at (Wd := [(q7, .inr (7, [.null, .int 0, .null, .int 0, .int 0, .int 0, .int 0, .null, .int 0, .int 0, .int 0, .int 0, .int 0, .int 0, .int 0, .int 0, .null, .null, .int 0, .int 0, .int 0, .int 0, .int 0, .int 0, .int 0, .int 0, .null, .int 0, .null, .null, .null, .null, .null, .int 0]))]) hE (hP.subm [88] rfl) (hD.sub [88] (by decide) rfl) hU hW⟩ rfl rfl hl.1 rfl (lv_room (Nat.le_of_ble_eq_true rfl)) dL_law_12 ⟨Nat.le_of_ble_eq_true rfl, Nat.le_of_ble_eq_true rfl⟩) hS hA hP hD (fun ad7 H locs hu hPn hDn hSn => ?_)
  have hu : ad7 0 = q7 := hu
  subst hu
  have hP : va_P G.1 vwCl (WX G ad ado i_XX ++ wX7 G ad7 i_X7) H := hPn
  have hD : va_D (fun q : Nat => s.heap.size ≤ q) (WX G ad ado i_XX ++ wX7 G ad7 i_X7) := hDn
  have hS := hSn
  refine lv_astore_n (lv' := [(2, .ref (ad7 0)), (1, .ref (ad 0)), (0, .ref b)]) hx hb dL_law_15 rfl hl (by decide) rfl (fun ls hl => ?_)
  refine lv_iconst (v := nI 0) hx hb dL_law_16 (ic_0) ?_
  refine lv_istore_n (lv' := [(3, .int (nI 0)), (2, .ref (ad7 0)), (1, .ref (ad 0)), (0, .ref b)]) hx hb dL_law_17 rfl hl (by decide) rfl (fun ls hl => ?_)
  refine W.widen (k := 100) (n := 2657) (Nat.le_of_ble_eq_true rfl) (Nat.le_of_ble_eq_true rfl) ?_
  have p1 : List.Perm (WL G ad ado ad7 i_X6 i_X0 i_X0 i_X0 i_X0 i_X4 i_X5 i_X0 i_X3 i_X1 i_X0 i_X2 i_X2 i_X2 i_X2 i_X7) (WX G ad ado i_XX ++ wX7 G ad7 i_X7) := catw_perm (as := [0, 1, 2, 3, 4, 5, 6, 7, 8, 9, 10, 11, 12, 13, 14, 15]) (is := [0, 1, 2, 3, 4, 5, 6, 7, 8, 9, 10, 11, 12, 13, 14]) (rs := [15]) (PC G ad ado ad7 (M16 i_X6 i_X0 i_X0 i_X0 i_X0 i_X4 i_X5 i_X0 i_X3 i_X1 i_X0 i_X2 i_X2 i_X2 i_X2 i_X7)) (by decide)
  exact law_loop hC hr hlocks hE hZ hX hbl hL (L + 1) 0 (by omega) (Nat.zero_le L) i_X6 i_X0 i_X0 i_X0 i_X0 i_X4 i_X5 i_X0 i_X3 i_X1 i_X0 i_X2 i_X2 i_X2 i_X2 i_X7 H _ ls Rel_new (va_P_pm p1.symm hP) (va_D_pm p1.symm hD) hS (lv_sub hl [3, 2, 1, 0] rfl)

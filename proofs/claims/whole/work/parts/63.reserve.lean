set_option maxHeartbeats 4000000 in
set_option maxRecDepth 100000 in
theorem lc_reserve {p : Program} {l : Launch} {e : Env} {s : State} {m : MethodId} {below : List Frame} {meth : Method} {c : Code} {D : va_G} {dA : Nat → ClassId} {sa : Nat → Nat} {lo b L : Nat} {xs : Nat → Int32} (C0 : lwC p l s m meth c b L xs D dA sa lo) (x4 : Int32) (hin : ∀ j : Nat, j < 8 → vp_in (x4 + nI j) L) {k ns : Nat} (hk3 : k + 3 ≤ 601024) (hn3 : ns + 17 ≤ 7293034) (al : Nat → Nat → Nat) (σ μ : CS) (n r : Nat) (O : List Nat) (H : Heap) (locs : List Loc) (ls : Array Slot) (hR : Rel σ μ n r O) (hI : Inv D dA lo al σ μ H) (hS : va_S (fun q => lo ≤ q) s.heap H locs) (hl : lv_has ls 8 (lwV b x4 al)) (J : lwJ p l e s m below meth c b x4 D dA lo k ns) : W p l e room_1 s m #[Value.ref b] below meth c H locs k ns (lw_Z below #[Value.ref b] s) (F0 m 309 ls []) := by
  obtain ⟨hx, hb, hml, hown, hts, hX, hbl, hbA, hlt, hwd, hnc⟩ := C0
  have hK := hwd.1
  have hk0 : k + 3 + 0 ≤ room_1.cells := hk3
  have hn0 : ns + 17 + 0 ≤ room_1.slots := hn3
  have hl : lv_has ls 8 [(0, .ref b), (1, .ref (al 0 0)), (2, .ref (al 8 0)), (3, .ref (al 10 0)), (4, .int x4)] := hl
  refine lv_aload_n hx hb dL_law_309 rfl (lv_at hl 1 rfl) ?_
  refine lv_aload_n hx hb dL_law_310 rfl (lv_at hl 0 rfl) ?_
  refine lv_iload hx hb dL_law_311 (lv_at hl 4 rfl) ?_
  refine lv_iconst (v := 1) hx hb dL_law_313 (by decide) ?_
  refine lv_iadd hx hb dL_law_314 ?_
  refine va_sld hx hb hX hbl hbA hS (show vp_in (x4 + 1) L from hin 1 (by decide)) dL_law_315 ?_
  refine lv_aload_n hx hb dL_law_316 rfl (lv_at hl 0 rfl) ?_
  refine lv_iload hx hb dL_law_317 (lv_at hl 4 rfl) ?_
  refine lv_iconst (v := 2) hx hb dL_law_319 (by decide) ?_
  refine lv_iadd hx hb dL_law_320 ?_
  refine va_sld hx hb hX hbl hbA hS (show vp_in (x4 + 2) L from hin 2 (by decide)) dL_law_321 ?_
  refine lv_aload_n hx hb dL_law_322 rfl (lv_at hl 0 rfl) ?_
  refine lv_iload hx hb dL_law_323 (lv_at hl 4 rfl) ?_
  refine lv_iconst (v := 3) hx hb dL_law_325 (by decide) ?_
  refine lv_iadd hx hb dL_law_326 ?_
  refine va_sld hx hb hX hbl hbA hS (show vp_in (x4 + 3) L from hin 3 (by decide)) dL_law_327 ?_
  refine lv_i2l hx hb dL_law_328 rfl ?_
  refine lv_bipush (v := 32) hx hb dL_law_329 (by decide) ?_
  refine lv_lshl hx hb dL_law_331 rfl ?_
  refine lv_aload_n hx hb dL_law_332 rfl (lv_at hl 0 rfl) ?_
  refine lv_iload hx hb dL_law_333 (lv_at hl 4 rfl) ?_
  refine lv_iconst (v := 4) hx hb dL_law_335 (by decide) ?_
  refine lv_iadd hx hb dL_law_336 ?_
  refine va_sld hx hb hX hbl hbA hS (show vp_in (x4 + 4) L from hin 4 (by decide)) dL_law_337 ?_
  refine lv_i2l hx hb dL_law_338 rfl ?_
  refine lv_ldc2 (v := 4294967295) hx hb hown (hts _ w_4_0) dL_law_339 ?_
  refine lv_land hx hb dL_law_342 ?_
  refine lv_lor hx hb dL_law_343 ?_
  refine W.eq (g2 := F0 m 344 ls (.long (jl (xs (x4 + 3).toNatClampNeg) (xs (x4 + 4).toNatClampNeg)) :: [.int (xs (x4 + 2).toNatClampNeg), .int (xs (x4 + 1).toNatClampNeg), .ref (al 0 0)])) rfl ?_
  refine lv_aload_n hx hb dL_law_344 rfl (lv_at hl 3 rfl) ?_
  have hkc : k + 3 ≤ room_1.cells := Nat.le_trans (show k + 3 ≤ k + 3 by omega) hk3
  have hnc9 : ns + 14 ≤ room_1.slots := Nat.le_trans (show ns + 14 ≤ ns + 17 by omega) hn3
  refine va_calli (vx_runSW (As := [.ref (al 0 0), .int (xs (x4 + 1).toNatClampNeg), .int (xs (x4 + 2).toNatClampNeg), .long (jl (xs (x4 + 3).toNatClampNeg) (xs (x4 + 4).toNatClampNeg)), .ref (al 10 0)]) (rest := []) ⟨hx, hb, hml, hown, hts⟩ (h_reserve l D dA sa lo al σ μ hlt (xs (x4 + 1).toNatClampNeg) (xs (x4 + 2).toNatClampNeg) (jl (xs (x4 + 3).toNatClampNeg) (xs (x4 + 4).toNatClampNeg)) n r (WFc_of hR) hR.2.1 (fun k => O.filter (hold σ k)) hR.2.2.1.2.2.2) (vx_cwSW 5 hts (gdW w_2_119 w_2_120 w_1_0 w_2_121) rfl rfl rfl (by decide +kernel) ⟨Nat.le_of_ble_eq_true rfl, Nat.le_of_ble_eq_true rfl⟩) ⟨ivn_bl, fun U hU hW => ⟨rfl, ivn_use hI hwd hnc hS hU hW⟩⟩ rfl rfl hl.1 rfl (lv_room (Nat.le_of_ble_eq_true rfl)) dL_law_345 ⟨hkc, hnc9⟩) hS (fun q _ h => h) (fun q h => h) (fun r9 u9 T9 H1 locs ht9 hvm9 e9 hB9 hz9 hk9 hS => ?_)
  obtain ⟨u8, μ8, al8⟩ := u9
  have hI := iv_takeH ht9 hB9
  obtain ⟨er, es, em, hag⟩ := e9
  have hag : agree al al8 := hag
  have hI : Inv D dA lo al8 u8 μ8 H1 := hI
  clear hB9 hk9
  refine W.widen (k := k + 3) (n := ns + 17) (by omega) (by omega) ?_
  have em : μ8 = (if (cRes σ r (fun k => O.filter (hold σ k)) (xs (x4 + 1).toNatClampNeg) (xs (x4 + 2).toNatClampNeg) (jl (xs (x4 + 3).toNatClampNeg) (xs (x4 + 4).toNatClampNeg))).1 = 0 then uL μ 10 0 0 (cRes σ r (fun k => O.filter (hold σ k)) (xs (x4 + 1).toNatClampNeg) (xs (x4 + 2).toNatClampNeg) (jl (xs (x4 + 3).toNatClampNeg) (xs (x4 + 4).toNatClampNeg))).2.1.toInt64 else μ) := em
  have hR1 : Rel σ μ8 n r O := by rw [em]; split; exact Rel_out hR; exact hR
  have hl : lv_has ls 8 [(0, .ref b), (1, .ref (al8 0 0)), (2, .ref (al8 8 0)), (3, .ref (al8 10 0)), (4, .int x4)] := by rw [hag 0 0 (Or.inl rfl), hag 8 0 (Or.inr (by decide)), hag 10 0 (Or.inr (by decide))]; exact hl
  refine lv_istore (lv' := [(5, .int r9), (0, .ref b), (1, .ref (al8 0 0)), (2, .ref (al8 8 0)), (3, .ref (al8 10 0)), (4, .int x4)]) hx hb dL_law_348 hl (by decide) rfl (fun ls hl => ?_)
  refine lv_aload_n hx hb dL_law_350 rfl (lv_at hl 3 rfl) ?_
  refine lv_aload_n hx hb dL_law_351 rfl (lv_at hl 1 rfl) ?_
  refine lv_iload hx hb dL_law_352 (lv_at hl 5 rfl) ?_
  refine lv_iconst (v := 1) hx hb dL_law_354 (by decide) ?_
  refine lv_iadd hx hb dL_law_355 ?_
  refine va_sld hx hb hX hbl hbA hS (show vp_in (x4 + 1) L from hin 1 (by decide)) dL_law_356 ?_
  refine lv_aload_n hx hb dL_law_357 rfl (lv_at hl 1 rfl) ?_
  refine lv_iload hx hb dL_law_358 (lv_at hl 5 rfl) ?_
  refine lv_iconst (v := 2) hx hb dL_law_360 (by decide) ?_
  refine lv_iadd hx hb dL_law_361 ?_
  refine va_sld hx hb hX hbl hbA hS (show vp_in (x4 + 2) L from hin 2 (by decide)) dL_law_362 ?_
  refine lv_aload_n hx hb dL_law_363 rfl (lv_at hl 1 rfl) ?_
  refine lv_iload hx hb dL_law_364 (lv_at hl 5 rfl) ?_
  refine lv_iconst (v := 3) hx hb dL_law_366 (by decide) ?_
  refine lv_iadd hx hb dL_law_367 ?_
  refine va_sld hx hb hX hbl hbA hS (show vp_in (x4 + 3) L from hin 3 (by decide)) dL_law_368 ?_
  refine lv_i2l hx hb dL_law_369 rfl ?_
  refine lv_bipush (v := 32) hx hb dL_law_370 (by decide) ?_
  refine lv_lshl hx hb dL_law_372 rfl ?_
  refine lv_aload_n hx hb dL_law_373 rfl (lv_at hl 1 rfl) ?_
  refine lv_iload hx hb dL_law_374 (lv_at hl 5 rfl) ?_
  refine lv_iconst (v := 4) hx hb dL_law_376 (by decide) ?_
  refine lv_iadd hx hb dL_law_377 ?_
  refine va_sld hx hb hX hbl hbA hS (show vp_in (x4 + 4) L from hin 4 (by decide)) dL_law_378 ?_
  refine lv_i2l hx hb dL_law_379 rfl ?_
  refine lv_ldc2 (v := 4294967295) hx hb hown (hts _ w_4_0) dL_law_380 ?_
  refine lv_land hx hb dL_law_383 ?_
  refine lv_lor hx hb dL_law_384 ?_
  refine W.eq (g2 := F0 m 385 ls (.long (jl (xs (x4 + 3).toNatClampNeg) (xs (x4 + 4).toNatClampNeg)) :: [.int (xs (x4 + 2).toNatClampNeg), .int (xs (x4 + 1).toNatClampNeg), .ref (al8 8 0)])) rfl ?_
  refine va_calli (va_runV (As := [.int (xs (x4 + 1).toNatClampNeg), .int (xs (x4 + 2).toNatClampNeg), .long (jl (xs (x4 + 3).toNatClampNeg) (xs (x4 + 4).toNatClampNeg))]) (rest := []) ⟨hx, hb, hml, hown, hts⟩ (m_reserve l D dA sa lo al8 u8 μ8 (xs (x4 + 1).toNatClampNeg) (xs (x4 + 2).toNatClampNeg) (jl (xs (x4 + 3).toNatClampNeg) (xs (x4 + 4).toNatClampNeg)) n r (WFm_of hR1) O hR1.2.2.1.1) (cwV 3 hts (gdV w_3_172 w_3_173 w_3_174 w_1_3 w_3_175) rfl rfl rfl (by decide +kernel) ⟨Nat.le_of_ble_eq_true rfl, Nat.le_of_ble_eq_true rfl⟩) ⟨iv_bl, sx_recv hK (c8_at hI) rfl, fun U hU hW => ⟨rfl, iv_use hI hwd hS hU hW⟩⟩ rfl rfl hl.1 rfl (lv_room (Nat.le_of_ble_eq_true rfl)) dL_law_385 ⟨hk0, hn0⟩) hS (fun q _ h => h) (fun q h => h) (fun rb ub T8 H1 locs ht8 hvm8 eb hB8 hz8 hk8 hS => ?_)
  have hI := iv_takeM ht8 hB8
  clear hB8 hk8
  have o := end32 (P := fun a b => ∃ n1 r1 O1, Rel a b n1 r1 O1) er es em eb (op_reserve hR1)
  obtain ⟨o1, o2, n1, r1, O1, hR9⟩ := o
  refine lv_istore (lv' := [(6, .int rb), (5, .int r9), (0, .ref b), (1, .ref (al8 0 0)), (2, .ref (al8 8 0)), (3, .ref (al8 10 0)), (4, .int x4)]) hx hb dL_law_388 hl (by decide) rfl (fun ls hl => ?_)
  refine lv_aload_n hx hb dL_law_390 rfl (lv_at hl 4 rfl) ?_
  refine vp_callSi (W.runV (As := []) (rest := []) ⟨hx, hb, hml, hown, hts⟩ (m_thrown l D dA sa lo al8 u8 ub) (cwV 0 hts (gdV w_3_109 w_3_110 w_3_111 w_1_3 w_3_112) rfl rfl rfl (by decide +kernel) ⟨Nat.le_of_ble_eq_true rfl, Nat.le_of_ble_eq_true rfl⟩) ⟨iv_bl, sx_recv hK (c8_at hI) rfl, fun U hU hW => ⟨rfl, iv_use hI hwd hS hU hW⟩⟩ rfl rfl hl.1 rfl (lv_room (Nat.le_of_ble_eq_true rfl)) dL_law_391 ⟨hk0, hn0⟩) (fun rt et => ?_)
  subst et
  refine lv_iload hx hb dL_law_394 (lv_at hl 1 rfl) ?_
  refine lv_icmp_eq (tgt := 401) hx hb dL_law_396 (by decide) (fun c_396 => ?_) (fun c_396 => ?_)
  · refine lv_iload hx hb dL_law_401 (lv_at hl 1 rfl) ?_
    refine lv_if_ne (tgt := 418) hx hb dL_law_403 (by decide) (fun c_403 => ?_) (fun c_403 => ?_)
    · refine lv_goto (tgt := 1067) hx hb dL_law_418 (by decide) ?_
      refine W.widen (k := k + 3) (n := ns + 17) (Nat.le_refl _) (Nat.le_refl _) ?_
      exact J _ _ _ _ _ _ _ _ _ hR9 hI hS (lv_sub hl [2, 3, 4, 5, 6] rfl)
    · refine lv_aload_n hx hb dL_law_406 rfl (lv_at hl 5 rfl) ?_
      refine lv_iconst (v := 0) hx hb dL_law_407 (by decide) ?_
      refine sx_lald hx hb hK (c10_at hI) 1 rfl (show vp_in 0 1 from vp_in_nI (n := 0) (by decide) (by decide)) dL_law_408 ?_
      refine W.eq (g2 := F0 m 409 ls (.long (fL ub 10 0 0) :: [])) rfl ?_
      refine lv_iload hx hb dL_law_409 (lv_at hl 0 rfl) ?_
      refine lv_i2l hx hb dL_law_411 rfl ?_
      refine W.lcmp hx hb dL_law_412 ?_
      refine lv_if_eq (tgt := 418) hx hb dL_law_413 (by decide) (fun c_413 => ?_) (fun c_413 => ?_)
      · have c_413 : (fL ub 10 0 0) = rb.toInt64 := (lg_cmp_eq _ _).mp c_413
        refine lv_goto (tgt := 1067) hx hb dL_law_418 (by decide) ?_
        refine W.widen (k := k + 3) (n := ns + 17) (Nat.le_refl _) (Nat.le_refl _) ?_
        exact J _ _ _ _ _ _ _ _ _ hR9 hI hS (lv_sub hl [2, 3, 4, 5, 6] rfl)
      · have c_413 : ¬ (fL ub 10 0 0) = rb.toInt64 := fun h => c_413 ((lg_cmp_eq _ _).mpr h)
        exact absurd (o2 c_403) c_413
  · exact absurd o1 c_396

set_option maxHeartbeats 4000000 in
set_option maxRecDepth 100000 in
theorem lc_interest {p : Program} {l : Launch} {e : Env} {s : State} {m : MethodId} {below : List Frame} {meth : Method} {c : Code} {D : va_G} {dA : Nat → ClassId} {sa : Nat → Nat} {lo b L : Nat} {xs : Nat → Int32} (C0 : lwC p l s m meth c b L xs D dA sa lo) (x4 : Int32) (hin : ∀ j : Nat, j < 8 → vp_in (x4 + nI j) L) {k ns : Nat} (hk3 : k + 3 ≤ 601024) (hn3 : ns + 17 ≤ 7293034) (al : Nat → Nat → Nat) (σ μ : CS) (n r : Nat) (O : List Nat) (H : Heap) (locs : List Loc) (ls : Array Slot) (hR : Rel σ μ n r O) (hI : Inv D dA lo al σ μ H) (hS : va_S (fun q => lo ≤ q) s.heap H locs) (hl : lv_has ls 8 (lwV b x4 al)) (J : lwJ p l e s m below meth c b x4 D dA lo k ns) : W p l e room_1 s m #[Value.ref b] below meth c H locs k ns (lw_Z below #[Value.ref b] s) (F0 m 790 ls []) := by
  obtain ⟨hx, hb, hml, hown, hts, hX, hbl, hbA, hlt, hwd, hnc⟩ := C0
  have hK := hwd.1
  have hk0 : k + 3 + 0 ≤ room_1.cells := hk3
  have hn0 : ns + 17 + 0 ≤ room_1.slots := hn3
  have hl : lv_has ls 8 [(0, .ref b), (1, .ref (al 0 0)), (2, .ref (al 8 0)), (3, .ref (al 10 0)), (4, .int x4)] := hl
  refine lv_aload_n hx hb dL_law_790 rfl (lv_at hl 1 rfl) ?_
  refine lv_aload_n hx hb dL_law_791 rfl (lv_at hl 0 rfl) ?_
  refine lv_iload hx hb dL_law_792 (lv_at hl 4 rfl) ?_
  refine lv_iconst (v := 1) hx hb dL_law_794 (by decide) ?_
  refine lv_iadd hx hb dL_law_795 ?_
  refine va_sld hx hb hX hbl hbA hS (show vp_in (x4 + 1) L from hin 1 (by decide)) dL_law_796 ?_
  refine lv_aload_n hx hb dL_law_797 rfl (lv_at hl 3 rfl) ?_
  have hkc : k + 1 ≤ room_1.cells := Nat.le_trans (show k + 1 ≤ k + 3 by omega) hk3
  have hnc9 : ns + 6 ≤ room_1.slots := Nat.le_trans (show ns + 6 ≤ ns + 17 by omega) hn3
  refine va_calli (vx_runSW (As := [.ref (al 0 0), .int (xs (x4 + 1).toNatClampNeg), .ref (al 10 0)]) (rest := []) ⟨hx, hb, hml, hown, hts⟩ (h_interest l D dA sa lo al σ μ hlt (xs (x4 + 1).toNatClampNeg) n r (WFc_of hR)) (vx_cwSW 3 hts (gdW w_2_215 w_2_216 w_1_0 w_2_217) rfl rfl rfl (by decide +kernel) ⟨Nat.le_of_ble_eq_true rfl, Nat.le_of_ble_eq_true rfl⟩) ⟨ivn_bl, fun U hU hW => ⟨rfl, ivn_use hI hwd hnc hS hU hW⟩⟩ rfl rfl hl.1 rfl (lv_room (Nat.le_of_ble_eq_true rfl)) dL_law_798 ⟨hkc, hnc9⟩) hS (fun q _ h => h) (fun q h => h) (fun r9 u9 T9 H1 locs ht9 hvm9 e9 hB9 hz9 hk9 hS => ?_)
  obtain ⟨u8, μ8, al8⟩ := u9
  have hI := iv_takeH ht9 hB9
  obtain ⟨er, es, em, hag⟩ := e9
  have hag : agree al al8 := hag
  have hI : Inv D dA lo al8 u8 μ8 H1 := hI
  clear hB9 hk9
  refine W.widen (k := k + 3) (n := ns + 17) (by omega) (by omega) ?_
  have em : μ8 = (if (cInterest σ n (xs (x4 + 1).toNatClampNeg)).1 = 0 then uL μ 10 0 0 (cInterest σ n (xs (x4 + 1).toNatClampNeg)).2.1 else μ) := em
  have hR1 : Rel σ μ8 n r O := by rw [em]; split; exact Rel_out hR; exact hR
  have hl : lv_has ls 8 [(0, .ref b), (1, .ref (al8 0 0)), (2, .ref (al8 8 0)), (3, .ref (al8 10 0)), (4, .int x4)] := by rw [hag 0 0 (Or.inl rfl), hag 8 0 (Or.inr (by decide)), hag 10 0 (Or.inr (by decide))]; exact hl
  refine lv_istore (lv' := [(5, .int r9), (0, .ref b), (1, .ref (al8 0 0)), (2, .ref (al8 8 0)), (3, .ref (al8 10 0)), (4, .int x4)]) hx hb dL_law_801 hl (by decide) rfl (fun ls hl => ?_)
  refine lv_aload_n hx hb dL_law_803 rfl (lv_at hl 3 rfl) ?_
  refine lv_aload_n hx hb dL_law_804 rfl (lv_at hl 1 rfl) ?_
  refine lv_iload hx hb dL_law_805 (lv_at hl 5 rfl) ?_
  refine lv_iconst (v := 1) hx hb dL_law_807 (by decide) ?_
  refine lv_iadd hx hb dL_law_808 ?_
  refine va_sld hx hb hX hbl hbA hS (show vp_in (x4 + 1) L from hin 1 (by decide)) dL_law_809 ?_
  refine va_calll (va_runV (As := [.int (xs (x4 + 1).toNatClampNeg)]) (rest := []) ⟨hx, hb, hml, hown, hts⟩ (m_interest l D dA sa lo al8 u8 μ8 (xs (x4 + 1).toNatClampNeg) n r (WFm_of hR1)) (cwV 1 hts (gdV w_3_224 w_3_225 w_3_226 w_1_3 w_3_227) rfl rfl rfl (by decide +kernel) ⟨Nat.le_of_ble_eq_true rfl, Nat.le_of_ble_eq_true rfl⟩) ⟨iv_bl, sx_recv hK (c8_at hI) rfl, fun U hU hW => ⟨rfl, iv_use hI hwd hS hU hW⟩⟩ rfl rfl hl.1 rfl (lv_room (Nat.le_of_ble_eq_true rfl)) dL_law_810 ⟨hk0, hn0⟩) hS (fun q _ h => h) (fun q h => h) (fun rb ub T8 H1 locs ht8 hvm8 eb hB8 hz8 hk8 hS => ?_)
  have hI := iv_takeM ht8 hB8
  clear hB8 hk8
  have o := end64 (P := fun a b => Rel a b n r O) er es em eb (op_interest hR1)
  obtain ⟨o1, o2, hR9⟩ := o
  refine lv_lstore (lv' := [(6, .long rb), (5, .int r9), (0, .ref b), (1, .ref (al8 0 0)), (2, .ref (al8 8 0)), (3, .ref (al8 10 0)), (4, .int x4)]) hx hb dL_law_813 hl (by decide) rfl (fun ls hl => ?_)
  refine lv_aload_n hx hb dL_law_815 rfl (lv_at hl 4 rfl) ?_
  refine vp_callSi (W.runV (As := []) (rest := []) ⟨hx, hb, hml, hown, hts⟩ (m_thrown l D dA sa lo al8 u8 ub) (cwV 0 hts (gdV w_3_109 w_3_110 w_3_111 w_1_3 w_3_112) rfl rfl rfl (by decide +kernel) ⟨Nat.le_of_ble_eq_true rfl, Nat.le_of_ble_eq_true rfl⟩) ⟨iv_bl, sx_recv hK (c8_at hI) rfl, fun U hU hW => ⟨rfl, iv_use hI hwd hS hU hW⟩⟩ rfl rfl hl.1 rfl (lv_room (Nat.le_of_ble_eq_true rfl)) dL_law_816 ⟨hk0, hn0⟩) (fun rt et => ?_)
  subst et
  refine lv_iload hx hb dL_law_819 (lv_at hl 1 rfl) ?_
  refine lv_icmp_eq (tgt := 826) hx hb dL_law_821 (by decide) (fun c_821 => ?_) (fun c_821 => ?_)
  · refine lv_iload hx hb dL_law_826 (lv_at hl 1 rfl) ?_
    refine lv_if_ne (tgt := 842) hx hb dL_law_828 (by decide) (fun c_828 => ?_) (fun c_828 => ?_)
    · refine lv_goto (tgt := 1067) hx hb dL_law_842 (by decide) ?_
      refine W.widen (k := k + 3) (n := ns + 17) (Nat.le_refl _) (Nat.le_refl _) ?_
      exact J _ _ _ _ _ _ _ _ _ hR9 hI hS (lv_sub hl [2, 3, 4, 5, 6] rfl)
    · refine lv_aload_n hx hb dL_law_831 rfl (lv_at hl 5 rfl) ?_
      refine lv_iconst (v := 0) hx hb dL_law_832 (by decide) ?_
      refine sx_lald hx hb hK (c10_at hI) 1 rfl (show vp_in 0 1 from vp_in_nI (n := 0) (by decide) (by decide)) dL_law_833 ?_
      refine W.eq (g2 := F0 m 834 ls (.long (fL ub 10 0 0) :: [])) rfl ?_
      refine lv_lload hx hb dL_law_834 (lv_at hl 0 rfl) ?_
      refine W.lcmp hx hb dL_law_836 ?_
      refine lv_if_eq (tgt := 842) hx hb dL_law_837 (by decide) (fun c_837 => ?_) (fun c_837 => ?_)
      · have c_837 : (fL ub 10 0 0) = rb := (lg_cmp_eq _ _).mp c_837
        refine lv_goto (tgt := 1067) hx hb dL_law_842 (by decide) ?_
        refine W.widen (k := k + 3) (n := ns + 17) (Nat.le_refl _) (Nat.le_refl _) ?_
        exact J _ _ _ _ _ _ _ _ _ hR9 hI hS (lv_sub hl [2, 3, 4, 5, 6] rfl)
      · have c_837 : ¬ (fL ub 10 0 0) = rb := fun h => c_837 ((lg_cmp_eq _ _).mpr h)
        exact absurd (o2 c_828) c_837
  · exact absurd o1 c_821

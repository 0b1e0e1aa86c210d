set_option maxHeartbeats 4000000 in
set_option maxRecDepth 100000 in
theorem lc_fails {p : Program} {l : Launch} {e : Env} {s : State} {m : MethodId} {below : List Frame} {meth : Method} {c : Code} {D : va_G} {dA : Nat → ClassId} {sa : Nat → Nat} {lo b L : Nat} {xs : Nat → Int32} (C0 : lwC p l s m meth c b L xs D dA sa lo) (x4 : Int32) (hin : ∀ j : Nat, j < 8 → vp_in (x4 + nI j) L) {k ns : Nat} (hk3 : k + 3 ≤ 601024) (hn3 : ns + 17 ≤ 7293034) (al : Nat → Nat → Nat) (σ μ : CS) (n r : Nat) (O : List Nat) (H : Heap) (locs : List Loc) (ls : Array Slot) (hR : Rel σ μ n r O) (hI : Inv D dA lo al σ μ H) (hS : va_S (fun q => lo ≤ q) s.heap H locs) (hl : lv_has ls 8 (lwV b x4 al)) (J : lwJ p l e s m below meth c b x4 D dA lo k ns) : W p l e room_1 s m #[Value.ref b] below meth c H locs k ns (lw_Z below #[Value.ref b] s) (F0 m 712 ls []) := by
  obtain ⟨hx, hb, hml, hown, hts, hX, hbl, hbA, hlt, hwd, hnc⟩ := C0
  have hK := hwd.1
  have hk0 : k + 3 + 0 ≤ room_1.cells := hk3
  have hn0 : ns + 17 + 0 ≤ room_1.slots := hn3
  have hl : lv_has ls 8 [(0, .ref b), (1, .ref (al 0 0)), (2, .ref (al 8 0)), (3, .ref (al 10 0)), (4, .int x4)] := hl
  refine W.widen (k := k + 3) (n := ns + 17) (by omega) (by omega) ?_
  refine lv_aload_n hx hb dL_law_712 rfl (lv_at hl 1 rfl) ?_
  refine lv_aload_n hx hb dL_law_713 rfl (lv_at hl 0 rfl) ?_
  refine lv_iload hx hb dL_law_714 (lv_at hl 4 rfl) ?_
  refine lv_iconst (v := 1) hx hb dL_law_716 (by decide) ?_
  refine lv_iadd hx hb dL_law_717 ?_
  refine va_sld hx hb hX hbl hbA hS (show vp_in (x4 + 1) L from hin 1 (by decide)) dL_law_718 ?_
  refine lv_aload_n hx hb dL_law_719 rfl (lv_at hl 0 rfl) ?_
  refine lv_iload hx hb dL_law_720 (lv_at hl 4 rfl) ?_
  refine lv_iconst (v := 2) hx hb dL_law_722 (by decide) ?_
  refine lv_iadd hx hb dL_law_723 ?_
  refine va_sld hx hb hX hbl hbA hS (show vp_in (x4 + 2) L from hin 2 (by decide)) dL_law_724 ?_
  refine jn_i (tgt := 733) (rest := [.int (xs (x4 + 1).toNatClampNeg), .ref (al 0 0)]) (ls := ls) (P := fun b9 => b9 = bz (xs (x4 + 2).toNatClampNeg)) (fun J_725 => ?_) (fun b9 hb9 => ?_)
  · refine lv_if_eq (tgt := 732) hx hb dL_law_725 (by decide) (fun c_725 => ?_) (fun c_725 => ?_)
    · refine lv_iconst (v := 0) hx hb dL_law_732 (by decide) ?_
      exact J_725 _ (if_pos c_725).symm
    · refine lv_iconst (v := 1) hx hb dL_law_728 (by decide) ?_
      refine lv_goto (tgt := 733) hx hb dL_law_729 (by decide) ?_
      exact J_725 _ (if_neg c_725).symm
  · subst hb9
    refine va_calli (va_runV (As := [.int (xs (x4 + 1).toNatClampNeg), .int (bz (xs (x4 + 2).toNatClampNeg))]) (rest := []) ⟨hx, hb, hml, hown, hts⟩ (k_fails l D dA sa lo al σ μ (xs (x4 + 1).toNatClampNeg) (bz (xs (x4 + 2).toNatClampNeg)) (bz_or (xs (x4 + 2).toNatClampNeg))) (cwV 2 hts (gdV w_1_123 w_1_124 w_1_125 w_1_1 w_1_126) rfl rfl rfl (by decide +kernel) ⟨Nat.le_of_ble_eq_true rfl, Nat.le_of_ble_eq_true rfl⟩) ⟨iv_bl, sx_recv hK (c0_at hI) rfl, fun U hU hW => ⟨rfl, iv_use hI hwd hS hU hW⟩⟩ rfl rfl hl.1 rfl (lv_room (Nat.le_of_ble_eq_true rfl)) dL_law_733 ⟨hk0, hn0⟩) hS (fun q _ h => h) (fun q h => h) (fun ra ua T9 H1 locs ht9 hvm9 ea hB9 hz9 hk9 hS => ?_)
    have hI := iv_take ht9 hB9
    clear hB9 hk9
    refine lv_aload_n hx hb dL_law_736 rfl (lv_at hl 2 rfl) ?_
    refine lv_aload_n hx hb dL_law_737 rfl (lv_at hl 0 rfl) ?_
    refine lv_iload hx hb dL_law_738 (lv_at hl 4 rfl) ?_
    refine lv_iconst (v := 1) hx hb dL_law_740 (by decide) ?_
    refine lv_iadd hx hb dL_law_741 ?_
    refine va_sld hx hb hX hbl hbA hS (show vp_in (x4 + 1) L from hin 1 (by decide)) dL_law_742 ?_
    refine lv_aload_n hx hb dL_law_743 rfl (lv_at hl 0 rfl) ?_
    refine lv_iload hx hb dL_law_744 (lv_at hl 4 rfl) ?_
    refine lv_iconst (v := 2) hx hb dL_law_746 (by decide) ?_
    refine lv_iadd hx hb dL_law_747 ?_
    refine va_sld hx hb hX hbl hbA hS (show vp_in (x4 + 2) L from hin 2 (by decide)) dL_law_748 ?_
    refine jn_i (tgt := 757) (rest := [.int (xs (x4 + 1).toNatClampNeg), .ref (al 8 0), .int ra]) (ls := ls) (P := fun b9 => b9 = bz (xs (x4 + 2).toNatClampNeg)) (fun J_749 => ?_) (fun b9 hb9 => ?_)
    · refine lv_if_eq (tgt := 756) hx hb dL_law_749 (by decide) (fun c_749 => ?_) (fun c_749 => ?_)
      · refine lv_iconst (v := 0) hx hb dL_law_756 (by decide) ?_
        exact J_749 _ (if_pos c_749).symm
      · refine lv_iconst (v := 1) hx hb dL_law_752 (by decide) ?_
        refine lv_goto (tgt := 757) hx hb dL_law_753 (by decide) ?_
        exact J_749 _ (if_neg c_749).symm
    · subst hb9
      refine va_calli (va_runV (As := [.int (xs (x4 + 1).toNatClampNeg), .int (bz (xs (x4 + 2).toNatClampNeg))]) (rest := [.int ra]) ⟨hx, hb, hml, hown, hts⟩ (m_fails l D dA sa lo al ua μ (xs (x4 + 1).toNatClampNeg) (bz (xs (x4 + 2).toNatClampNeg)) (bz_or (xs (x4 + 2).toNatClampNeg))) (cwV 2 hts (gdV w_3_215 w_3_216 w_3_217 w_1_3 w_3_218) rfl rfl rfl (by decide +kernel) ⟨Nat.le_of_ble_eq_true rfl, Nat.le_of_ble_eq_true rfl⟩) ⟨iv_bl, sx_recv hK (c8_at hI) rfl, fun U hU hW => ⟨rfl, iv_use hI hwd hS hU hW⟩⟩ rfl rfl hl.1 rfl (lv_room (Nat.le_of_ble_eq_true rfl)) dL_law_757 ⟨hk0, hn0⟩) hS (fun q _ h => h) (fun q h => h) (fun rb ub T8 H1 locs ht8 hvm8 eb hB8 hz8 hk8 hS => ?_)
      have hI := iv_takeM ht8 hB8
      clear hB8 hk8
      have o := end2 (P := fun a b => Rel a b n r O) ea eb (op_fails hR)
      obtain ⟨o1, hR9⟩ := o
      refine lv_icmp_eq (tgt := 1067) hx hb dL_law_760 (by decide) (fun c_760 => ?_) (fun c_760 => ?_)
      · refine W.widen (k := k + 3) (n := ns + 17) (Nat.le_refl _) (Nat.le_refl _) ?_
        exact J _ _ _ _ _ _ _ _ _ hR9 hI hS (lv_sub hl [0, 1, 2, 3, 4] rfl)
      · exact absurd o1 c_760

set_option maxHeartbeats 4000000 in
set_option maxRecDepth 100000 in
theorem lc_free {p : Program} {l : Launch} {e : Env} {s : State} {m : MethodId} {below : List Frame} {meth : Method} {c : Code} {D : va_G} {dA : Nat → ClassId} {sa : Nat → Nat} {lo b L : Nat} {xs : Nat → Int32} (C0 : lwC p l s m meth c b L xs D dA sa lo) (x4 : Int32) (hin : ∀ j : Nat, j < 8 → vp_in (x4 + nI j) L) {k ns : Nat} (hk3 : k + 3 ≤ 601024) (hn3 : ns + 17 ≤ 7293034) (al : Nat → Nat → Nat) (σ μ : CS) (n r : Nat) (O : List Nat) (H : Heap) (locs : List Loc) (ls : Array Slot) (hR : Rel σ μ n r O) (hI : Inv D dA lo al σ μ H) (hS : va_S (fun q => lo ≤ q) s.heap H locs) (hl : lv_has ls 8 (lwV b x4 al)) (J : lwJ p l e s m below meth c b x4 D dA lo k ns) : W p l e room_1 s m #[Value.ref b] below meth c H locs k ns (lw_Z below #[Value.ref b] s) (F0 m 845 ls []) := by
  obtain ⟨hx, hb, hml, hown, hts, hX, hbl, hbA, hlt, hwd, hnc⟩ := C0
  have hK := hwd.1
  have hk0 : k + 3 + 0 ≤ room_1.cells := hk3
  have hn0 : ns + 17 + 0 ≤ room_1.slots := hn3
  have hl : lv_has ls 8 [(0, .ref b), (1, .ref (al 0 0)), (2, .ref (al 8 0)), (3, .ref (al 10 0)), (4, .int x4)] := hl
  refine W.widen (k := k + 3) (n := ns + 17) (by omega) (by omega) ?_
  refine lv_aload_n hx hb dL_law_845 rfl (lv_at hl 1 rfl) ?_
  refine lv_aload_n hx hb dL_law_846 rfl (lv_at hl 0 rfl) ?_
  refine lv_iload hx hb dL_law_847 (lv_at hl 4 rfl) ?_
  refine lv_iconst (v := 1) hx hb dL_law_849 (by decide) ?_
  refine lv_iadd hx hb dL_law_850 ?_
  refine va_sld hx hb hX hbl hbA hS (show vp_in (x4 + 1) L from hin 1 (by decide)) dL_law_851 ?_
  refine vp_callSl (W.runV (As := [.int (xs (x4 + 1).toNatClampNeg)]) (rest := []) ⟨hx, hb, hml, hown, hts⟩ (k_free l D dA sa lo al σ μ (xs (x4 + 1).toNatClampNeg) (fun k => O.filter (hold σ k)) hR.2.2.1.2.2.2) (cwV 1 hts (gdV w_1_135 w_1_136 w_1_137 w_1_1 w_1_138) rfl rfl rfl (by decide +kernel) ⟨Nat.le_of_ble_eq_true rfl, Nat.le_of_ble_eq_true rfl⟩) ⟨iv_bl, sx_recv hK (c0_at hI) rfl, fun U hU hW => ⟨rfl, iv_use hI hwd hS hU hW⟩⟩ rfl rfl hl.1 rfl (lv_room (Nat.le_of_ble_eq_true rfl)) dL_law_852 ⟨hk0, hn0⟩) (fun ra ea => ?_)
  refine lv_aload_n hx hb dL_law_855 rfl (lv_at hl 2 rfl) ?_
  refine lv_aload_n hx hb dL_law_856 rfl (lv_at hl 0 rfl) ?_
  refine lv_iload hx hb dL_law_857 (lv_at hl 4 rfl) ?_
  refine lv_iconst (v := 1) hx hb dL_law_859 (by decide) ?_
  refine lv_iadd hx hb dL_law_860 ?_
  refine va_sld hx hb hX hbl hbA hS (show vp_in (x4 + 1) L from hin 1 (by decide)) dL_law_861 ?_
  refine va_calll (va_runV (As := [.int (xs (x4 + 1).toNatClampNeg)]) (rest := [.long ra]) ⟨hx, hb, hml, hown, hts⟩ (m_free l D dA sa lo al σ μ (xs (x4 + 1).toNatClampNeg) n r (WFm_of hR)) (cwV 1 hts (gdV w_3_142 w_3_143 w_3_144 w_1_3 w_3_145) rfl rfl rfl (by decide +kernel) ⟨Nat.le_of_ble_eq_true rfl, Nat.le_of_ble_eq_true rfl⟩) ⟨iv_bl, sx_recv hK (c8_at hI) rfl, fun U hU hW => ⟨rfl, iv_use hI hwd hS hU hW⟩⟩ rfl rfl hl.1 rfl (lv_room (Nat.le_of_ble_eq_true rfl)) dL_law_862 ⟨hk0, hn0⟩) hS (fun q _ h => h) (fun q h => h) (fun rb ub T8 H1 locs ht8 hvm8 eb hB8 hz8 hk8 hS => ?_)
  have hI := iv_takeM ht8 hB8
  clear hB8 hk8
  have o := end1 ea eb (op_free hR)
  obtain ⟨o1, o2⟩ := o
  have hR9 : Rel σ ub n r O := by rw [o2]; exact Rel_th hR
  refine W.lcmp hx hb dL_law_865 ?_
  refine lv_if_eq (tgt := 1067) hx hb dL_law_866 (by decide) (fun c_866 => ?_) (fun c_866 => ?_)
  · have c_866 : ra = rb := (lg_cmp_eq _ _).mp c_866
    refine W.widen (k := k + 3) (n := ns + 17) (Nat.le_refl _) (Nat.le_refl _) ?_
    exact J _ _ _ _ _ _ _ _ _ hR9 hI hS (lv_sub hl [0, 1, 2, 3, 4] rfl)
  · have c_866 : ¬ ra = rb := fun h => c_866 ((lg_cmp_eq _ _).mpr h)
    exact absurd o1 c_866

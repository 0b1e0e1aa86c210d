set_option maxHeartbeats 4000000 in
set_option maxRecDepth 100000 in
theorem m_freeOf (l : Launch) (D : va_G) (dA : Nat → ClassId) (sa : Nat → Nat) (lo : Nat) (al : Nat → Nat → Nat) (σ μ : CS) (g : Nat) (n r : Nat) (hw : WFm μ n r) (hg1 : 1 ≤ g) (hgn9 : g ≤ n) : Met l yX5_freeOf wsX5_freeOf ({ frames := 2, cells := 0, slots := 0, locals := 60 }) (va_Pc [.ref (al 8 0), .int (nI g)] (ivP D dA sa lo al σ μ)) (vp_Sl (fun z9 => z9 = mFree μ g r)) 0 0 (fun _ => False) := by
  refine Met.ofW (cc := cX5_freeOf) (maxL := 4) (ret := some .long) (by decide) rfl ?_
  intro p e s m args below meth c s₁ B hml hv
  obtain ⟨rfl, hI, hwd⟩ := hv
  have hx := B.exec
  have hb := B.bytes
  have hr := B.returns
  have hts : ∀ w ∈ WSall, w.before _ s = true := fun w h => atoms_spec (ws := wsX5_freeOf) B.pre w (List.mem_cons_of_mem _ h)
  have hown : s.vm.findClass RX5 = some m.cls := findClass_of_methodNamed B.named
  have hlocks := B.notSynchronized
  have hK := hwd.1
  have hS : va_S (fun q => lo ≤ q) s.heap s.heap [] := va_S.rf
  have hl := lv_entry ([.ref (al 8 0), .int (nI g)]) (n := 4) (Nat.le_of_ble_eq_true rfl)
  rw [lg_entry_eq]
  generalize (lg_sl ([.ref (al 8 0), .int (nI g)]) ++ List.replicate (4 - (lg_sl ([.ref (al 8 0), .int (nI g)])).length) Slot.unset).toArray = ls at hl ⊢
  have hl : lv_has ls 4 [(0, .ref (al 8 0)), (1, .int (nI g))] := hl
  obtain ⟨hn20, hr60, hgn, hrn, hor, hpt, hpr, hdn⟩ := id hw
  have hg : g ≤ 20 := by omega
  have hcg : (nI g).toNatClampNeg = g := nI_clamp (by omega)
  refine lv_aload_n hx hb dX5_freeOf_0 rfl (lv_at hl 0 rfl) ?_
  refine sx_get (ci := 5) (C := RX5) (T := TX5) (N := 24) (v := .ref (al 9 1)) hx hb hts inX5 hown hK (c8_at hI) rfl 4 (by decide) (hts _ w_3_40) rfl rfl dX5_freeOf_1 ?_
  refine lv_iload_n hx hb dX5_freeOf_4 rfl (lv_at hl 1 rfl) ?_
  refine sx_lald hx hb hK (c9_1_at hI) 1 rfl (vp_in_nI (show g < 21 by omega) (by decide)) dX5_freeOf_5 ?_
  rw [hcg]
  refine lv_aload_n hx hb dX5_freeOf_6 rfl (lv_at hl 0 rfl) ?_
  refine lv_iload_n hx hb dX5_freeOf_7 rfl (lv_at hl 1 rfl) ?_
  refine vp_callSl (W.runV (As := [.int (nI g)]) (rest := [.long (fL μ 9 1 g)]) ⟨hx, hb, hml, hown, hts⟩ (m_needed l D dA sa lo al σ μ g n r hw hg1 hgn9) (cwV 1 hts (gdV w_3_162 w_3_164 wp_16 w_1_3 w_3_165) rfl rfl rfl (by decide +kernel) ⟨Nat.le_of_ble_eq_true rfl, Nat.le_of_ble_eq_true rfl⟩) ⟨iv_bl, sx_recv hK (c8_at hI) rfl, fun U hU hW => ⟨rfl, iv_use hI hwd hS hU hW⟩⟩ rfl rfl hl.1 rfl (lv_room (Nat.le_of_ble_eq_true rfl)) dX5_freeOf_8 ⟨Nat.le_of_ble_eq_true rfl, Nat.le_of_ble_eq_true rfl⟩) (fun r_8 e_8 => ?_)
  subst e_8
  refine lv_lsub hx hb dX5_freeOf_11 ?_
  refine lv_lstore_n (lv' := [(2, .long ((fL μ 9 1 g) - (mNd μ g r))), (0, .ref (al 8 0)), (1, .int (nI g))]) hx hb dX5_freeOf_12 rfl hl (by decide) rfl (fun ls hl => ?_)
  refine lv_lload_n hx hb dX5_freeOf_13 rfl (lv_at hl 0 rfl) ?_
  refine lv_lconst (v := 0) hx hb dX5_freeOf_14 (by decide) ?_
  refine W.lcmp hx hb dX5_freeOf_15 ?_
  refine lv_if_ge (tgt := 23) hx hb dX5_freeOf_16 (by decide) (fun c_16 => ?_) (fun c_16 => ?_)
  · have c_16 : 0 ≤ ((fL μ 9 1 g) - (mNd μ g r)) := (lg_cmp_ge _ _).mp c_16
    refine lv_lload_n hx hb dX5_freeOf_23 rfl (lv_at hl 0 rfl) ?_
    exact W.lret (v := (fL μ 9 1 g) - (mNd μ g r)) hx hb hr (fun t ht hW => ⟨_, rfl, (by unfold mFree; simp only [if_pos c_16]), ht⟩) (fun q h => by cases h) dX5_freeOf_24
  · have c_16 : ¬ 0 ≤ ((fL μ 9 1 g) - (mNd μ g r)) := fun h => c_16 ((lg_cmp_ge _ _).mpr h)
    refine lv_lconst (v := 0) hx hb dX5_freeOf_19 (by decide) ?_
    refine lv_goto (tgt := 24) hx hb dX5_freeOf_20 (by decide) ?_
    exact W.lret (v := 0) hx hb hr (fun t ht hW => ⟨_, rfl, (by unfold mFree; simp only [if_neg c_16]), ht⟩) (fun q h => by cases h) dX5_freeOf_24

set_option maxHeartbeats 4000000 in
set_option maxRecDepth 100000 in
theorem m_may (l : Launch) (D : va_G) (dA : Nat → ClassId) (sa : Nat → Nat) (lo : Nat) (al : Nat → Nat → Nat) (σ μ : CS) (g : Nat) (n r : Nat) (hw : WFm μ n r) (hg1 : 1 ≤ g) (hgn9 : g ≤ n) : Met l yX5_may wsX5_may ({ frames := 3, cells := 0, slots := 0, locals := 90 }) (va_Pc [.ref (al 8 0), .int (nI g)] (ivP D dA sa lo al σ μ)) (vp_Sl (fun z9 => z9 = mMay μ g r)) 0 0 (fun _ => False) := by
  refine Met.ofW (cc := cX5_may) (maxL := 2) (ret := some .long) (by decide) rfl ?_
  intro p e s m args below meth c s₁ B hml hv
  obtain ⟨rfl, hI, hwd⟩ := hv
  have hx := B.exec
  have hb := B.bytes
  have hr := B.returns
  have hts : ∀ w ∈ WSall, w.before _ s = true := fun w h => atoms_spec (ws := wsX5_may) B.pre w (List.mem_cons_of_mem _ h)
  have hown : s.vm.findClass RX5 = some m.cls := findClass_of_methodNamed B.named
  have hlocks := B.notSynchronized
  have hK := hwd.1
  have hS : va_S (fun q => lo ≤ q) s.heap s.heap [] := va_S.rf
  have hl := lv_entry ([.ref (al 8 0), .int (nI g)]) (n := 2) (Nat.le_of_ble_eq_true rfl)
  rw [lg_entry_eq]
  generalize (lg_sl ([.ref (al 8 0), .int (nI g)]) ++ List.replicate (2 - (lg_sl ([.ref (al 8 0), .int (nI g)])).length) Slot.unset).toArray = ls at hl ⊢
  have hl : lv_has ls 2 [(0, .ref (al 8 0)), (1, .int (nI g))] := hl
  obtain ⟨hn20, hr60, hgn, hrn, hor, hpt, hpr, hdn⟩ := id hw
  have hg : g ≤ 20 := by omega
  have hcg : (nI g).toNatClampNeg = g := nI_clamp (by omega)
  refine lv_aload_n hx hb dX5_may_0 rfl (lv_at hl 0 rfl) ?_
  refine sx_get (ci := 5) (C := RX5) (T := TX5) (N := 24) (v := .ref (al 9 6)) hx hb hts inX5 hown hK (c8_at hI) rfl 9 (by decide) (hts _ w_3_45) rfl rfl dX5_may_1 ?_
  refine lv_iload_n hx hb dX5_may_4 rfl (lv_at hl 1 rfl) ?_
  refine sx_zald hx hb hK (c9_6_at hI) 2 rfl (vp_in_nI (show g < 21 by omega) (by decide)) dX5_may_5 ?_
  rw [hcg]
  refine lv_if_ne (tgt := 26) hx hb dX5_may_6 (by decide) (fun c_6 => ?_) (fun c_6 => ?_)
  · refine lv_lconst (v := 0) hx hb dX5_may_26 (by decide) ?_
    exact W.lret (v := 0) hx hb hr (fun t ht hW => ⟨_, rfl, (by unfold mMay; rw [if_pos (Or.inl c_6)]), ht⟩) (fun q h => by cases h) dX5_may_27
  · refine lv_aload_n hx hb dX5_may_9 rfl (lv_at hl 0 rfl) ?_
    refine sx_get (ci := 5) (C := RX5) (T := TX5) (N := 24) (v := .ref (al 9 4)) hx hb hts inX5 hown hK (c8_at hI) rfl 7 (by decide) (hts _ w_3_43) rfl rfl dX5_may_10 ?_
    refine lv_iload_n hx hb dX5_may_13 rfl (lv_at hl 1 rfl) ?_
    refine sx_zald hx hb hK (c9_4_at hI) 2 rfl (vp_in_nI (show g < 21 by omega) (by decide)) dX5_may_14 ?_
    rw [hcg]
    refine lv_if_eq (tgt := 28) hx hb dX5_may_15 (by decide) (fun c_15 => ?_) (fun c_15 => ?_)
    · refine lv_aload_n hx hb dX5_may_28 rfl (lv_at hl 0 rfl) ?_
      refine sx_get (ci := 5) (C := RX5) (T := TX5) (N := 24) (v := .ref (al 9 2)) hx hb hts inX5 hown hK (c8_at hI) rfl 5 (by decide) (hts _ w_3_41) rfl rfl dX5_may_29 ?_
      refine lv_iload_n hx hb dX5_may_32 rfl (lv_at hl 1 rfl) ?_
      refine sx_iald hx hb hK (c9_2_at hI) 0 rfl (vp_in_nI (show g < 21 by omega) (by decide)) dX5_may_33 ?_
      rw [hcg]
      refine lv_if_ne (tgt := 43) hx hb dX5_may_34 (by decide) (fun c_34 => ?_) (fun c_34 => ?_)
      · refine lv_aload_n hx hb dX5_may_43 rfl (lv_at hl 0 rfl) ?_
        refine lv_iload_n hx hb dX5_may_44 rfl (lv_at hl 1 rfl) ?_
        refine vp_callSl (W.runV (As := [.int (nI g)]) (rest := []) ⟨hx, hb, hml, hown, hts⟩ (m_freeOf l D dA sa lo al σ μ g n r hw hg1 hgn9) (cwV 1 hts (gdV w_3_158 w_3_160 wp_15 w_1_3 w_3_161) rfl rfl rfl (by decide +kernel) ⟨Nat.le_of_ble_eq_true rfl, Nat.le_of_ble_eq_true rfl⟩) ⟨iv_bl, sx_recv hK (c8_at hI) rfl, fun U hU hW => ⟨rfl, iv_use hI hwd hS hU hW⟩⟩ rfl rfl hl.1 rfl (lv_room (Nat.le_of_ble_eq_true rfl)) dX5_may_45 ⟨Nat.le_of_ble_eq_true rfl, Nat.le_of_ble_eq_true rfl⟩) (fun r_45 e_45 => ?_)
        subst e_45
        refine lv_aload_n hx hb dX5_may_48 rfl (lv_at hl 0 rfl) ?_
        refine sx_get (ci := 5) (C := RX5) (T := TX5) (N := 24) (v := .ref (al 9 3)) hx hb hts inX5 hown hK (c8_at hI) rfl 6 (by decide) (hts _ w_3_42) rfl rfl dX5_may_49 ?_
        refine lv_iload_n hx hb dX5_may_52 rfl (lv_at hl 1 rfl) ?_
        refine sx_iald hx hb hK (c9_3_at hI) 0 rfl (vp_in_nI (show g < 21 by omega) (by decide)) dX5_may_53 ?_
        rw [hcg]
        refine lv_i2l hx hb dX5_may_54 rfl ?_
        refine lv_lmul hx hb dX5_may_55 ?_
        refine lv_aload_n hx hb dX5_may_56 rfl (lv_at hl 0 rfl) ?_
        refine sx_get (ci := 5) (C := RX5) (T := TX5) (N := 24) (v := .ref (al 9 2)) hx hb hts inX5 hown hK (c8_at hI) rfl 5 (by decide) (hts _ w_3_41) rfl rfl dX5_may_57 ?_
        refine lv_iload_n hx hb dX5_may_60 rfl (lv_at hl 1 rfl) ?_
        refine sx_iald hx hb hK (c9_2_at hI) 0 rfl (vp_in_nI (show g < 21 by omega) (by decide)) dX5_may_61 ?_
        rw [hcg]
        refine lv_i2l hx hb dX5_may_62 rfl ?_
        refine lv_ldiv hx hb dX5_may_63 (fun h => c_34 (i64_0 h)) ?_
        exact W.lret (v := ((mFree μ g r) * (fI μ 9 3 g).toInt64) / (fI μ 9 2 g).toInt64) hx hb hr (fun t ht hW => ⟨_, rfl, (by unfold mMay; rw [if_neg (fun h => h.elim (fun q => q c_6) (fun q => q.1 c_15)), if_neg c_34]), ht⟩) (fun q h => by cases h) dX5_may_64
      · refine lv_ldc2 (v := 1000000000) hx hb hown (hts _ w_3_117) dX5_may_37 ?_
        refine lv_goto (tgt := 64) hx hb dX5_may_40 (by decide) ?_
        exact W.lret (v := 1000000000) hx hb hr (fun t ht hW => ⟨_, rfl, (by unfold mMay; rw [if_neg (fun h => h.elim (fun q => q c_6) (fun q => q.1 c_15)), if_pos c_34]), ht⟩) (fun q h => by cases h) dX5_may_64
    · refine lv_aload_n hx hb dX5_may_18 rfl (lv_at hl 0 rfl) ?_
      refine lv_iload_n hx hb dX5_may_19 rfl (lv_at hl 1 rfl) ?_
      refine vp_callSi (W.runV (As := [.int (nI g)]) (rest := []) ⟨hx, hb, hml, hown, hts⟩ (m_used l D dA sa lo al σ μ g n r hw hg1 hgn9) (cwV 1 hts (gdV w_3_154 w_3_156 wp_14 w_1_3 w_3_157) rfl rfl rfl (by decide +kernel) ⟨Nat.le_of_ble_eq_true rfl, Nat.le_of_ble_eq_true rfl⟩) ⟨iv_bl, sx_recv hK (c8_at hI) rfl, fun U hU hW => ⟨rfl, iv_use hI hwd hS hU hW⟩⟩ rfl rfl hl.1 rfl (lv_room (Nat.le_of_ble_eq_true rfl)) dX5_may_20 ⟨Nat.le_of_ble_eq_true rfl, Nat.le_of_ble_eq_true rfl⟩) (fun r_20 e_20 => ?_)
      subst e_20
      refine lv_if_le (tgt := 28) hx hb dX5_may_23 (by decide) (fun c_23 => ?_) (fun c_23 => ?_)
      · refine lv_aload_n hx hb dX5_may_28 rfl (lv_at hl 0 rfl) ?_
        refine sx_get (ci := 5) (C := RX5) (T := TX5) (N := 24) (v := .ref (al 9 2)) hx hb hts inX5 hown hK (c8_at hI) rfl 5 (by decide) (hts _ w_3_41) rfl rfl dX5_may_29 ?_
        refine lv_iload_n hx hb dX5_may_32 rfl (lv_at hl 1 rfl) ?_
        refine sx_iald hx hb hK (c9_2_at hI) 0 rfl (vp_in_nI (show g < 21 by omega) (by decide)) dX5_may_33 ?_
        rw [hcg]
        refine lv_if_ne (tgt := 43) hx hb dX5_may_34 (by decide) (fun c_34 => ?_) (fun c_34 => ?_)
        · refine lv_aload_n hx hb dX5_may_43 rfl (lv_at hl 0 rfl) ?_
          refine lv_iload_n hx hb dX5_may_44 rfl (lv_at hl 1 rfl) ?_
          refine vp_callSl (W.runV (As := [.int (nI g)]) (rest := []) ⟨hx, hb, hml, hown, hts⟩ (m_freeOf l D dA sa lo al σ μ g n r hw hg1 hgn9) (cwV 1 hts (gdV w_3_158 w_3_160 wp_15 w_1_3 w_3_161) rfl rfl rfl (by decide +kernel) ⟨Nat.le_of_ble_eq_true rfl, Nat.le_of_ble_eq_true rfl⟩) ⟨iv_bl, sx_recv hK (c8_at hI) rfl, fun U hU hW => ⟨rfl, iv_use hI hwd hS hU hW⟩⟩ rfl rfl hl.1 rfl (lv_room (Nat.le_of_ble_eq_true rfl)) dX5_may_45 ⟨Nat.le_of_ble_eq_true rfl, Nat.le_of_ble_eq_true rfl⟩) (fun r_45 e_45 => ?_)
          subst e_45
          refine lv_aload_n hx hb dX5_may_48 rfl (lv_at hl 0 rfl) ?_
          refine sx_get (ci := 5) (C := RX5) (T := TX5) (N := 24) (v := .ref (al 9 3)) hx hb hts inX5 hown hK (c8_at hI) rfl 6 (by decide) (hts _ w_3_42) rfl rfl dX5_may_49 ?_
          refine lv_iload_n hx hb dX5_may_52 rfl (lv_at hl 1 rfl) ?_
          refine sx_iald hx hb hK (c9_3_at hI) 0 rfl (vp_in_nI (show g < 21 by omega) (by decide)) dX5_may_53 ?_
          rw [hcg]
          refine lv_i2l hx hb dX5_may_54 rfl ?_
          refine lv_lmul hx hb dX5_may_55 ?_
          refine lv_aload_n hx hb dX5_may_56 rfl (lv_at hl 0 rfl) ?_
          refine sx_get (ci := 5) (C := RX5) (T := TX5) (N := 24) (v := .ref (al 9 2)) hx hb hts inX5 hown hK (c8_at hI) rfl 5 (by decide) (hts _ w_3_41) rfl rfl dX5_may_57 ?_
          refine lv_iload_n hx hb dX5_may_60 rfl (lv_at hl 1 rfl) ?_
          refine sx_iald hx hb hK (c9_2_at hI) 0 rfl (vp_in_nI (show g < 21 by omega) (by decide)) dX5_may_61 ?_
          rw [hcg]
          refine lv_i2l hx hb dX5_may_62 rfl ?_
          refine lv_ldiv hx hb dX5_may_63 (fun h => c_34 (i64_0 h)) ?_
          exact W.lret (v := ((mFree μ g r) * (fI μ 9 3 g).toInt64) / (fI μ 9 2 g).toInt64) hx hb hr (fun t ht hW => ⟨_, rfl, (by unfold mMay; rw [if_neg (fun h => h.elim (fun q => q c_6) (fun q => q.2 c_23)), if_neg c_34]), ht⟩) (fun q h => by cases h) dX5_may_64
        · refine lv_ldc2 (v := 1000000000) hx hb hown (hts _ w_3_117) dX5_may_37 ?_
          refine lv_goto (tgt := 64) hx hb dX5_may_40 (by decide) ?_
          exact W.lret (v := 1000000000) hx hb hr (fun t ht hW => ⟨_, rfl, (by unfold mMay; rw [if_neg (fun h => h.elim (fun q => q c_6) (fun q => q.2 c_23)), if_pos c_34]), ht⟩) (fun q h => by cases h) dX5_may_64
      · refine lv_lconst (v := 0) hx hb dX5_may_26 (by decide) ?_
        exact W.lret (v := 0) hx hb hr (fun t ht hW => ⟨_, rfl, (by unfold mMay; rw [if_pos (Or.inr ⟨c_15, c_23⟩)]), ht⟩) (fun q h => by cases h) dX5_may_27

set_option maxHeartbeats 4000000 in
set_option maxRecDepth 100000 in
theorem m_together (l : Launch) (D : va_G) (dA : Nat → ClassId) (sa : Nat → Nat) (lo : Nat) (al : Nat → Nat → Nat) (σ μ : CS) (h : Int32) (n r : Nat) (hw : WFm μ n r) : Met l yX5_together wsX5_together ({ frames := 4, cells := 0, slots := 0, locals := 120 }) (va_Pc [.ref (al 8 0), .int h] (ivP D dA sa lo al σ μ)) (vp_Sl (fun z9 => z9 = mTog μ n r h)) 0 0 (fun _ => False) := by
  refine Met.ofW (cc := cX5_together) (maxL := 5) (ret := some .long) (by decide) rfl ?_
  intro p e s m args below meth c s₁ B hml hv
  obtain ⟨rfl, hI, hwd⟩ := hv
  have hx := B.exec
  have hb := B.bytes
  have hr := B.returns
  have hts : ∀ w ∈ WSall, w.before _ s = true := fun w h => atoms_spec (ws := wsX5_together) B.pre w (List.mem_cons_of_mem _ h)
  have hown : s.vm.findClass RX5 = some m.cls := findClass_of_methodNamed B.named
  have hlocks := B.notSynchronized
  have hK := hwd.1
  have hS : va_S (fun q => lo ≤ q) s.heap s.heap [] := va_S.rf
  have hl := lv_entry ([.ref (al 8 0), .int h]) (n := 5) (Nat.le_of_ble_eq_true rfl)
  rw [lg_entry_eq]
  generalize (lg_sl ([.ref (al 8 0), .int h]) ++ List.replicate (5 - (lg_sl ([.ref (al 8 0), .int h])).length) Slot.unset).toArray = ls at hl ⊢
  have hl : lv_has ls 5 [(0, .ref (al 8 0)), (1, .int h)] := hl
  obtain ⟨hn20, hr60, hgn, hrn, hor, hpt, hpr, hdn⟩ := id hw
  refine lv_lconst (v := 0) hx hb dX5_together_0 (by decide) ?_
  refine lv_lstore_n (lv' := [(2, .long 0), (0, .ref (al 8 0)), (1, .int h)]) hx hb dX5_together_1 rfl hl (by decide) rfl (fun ls hl => ?_)
  refine lv_iconst (v := 1) hx hb dX5_together_2 (by decide) ?_
  refine lv_istore (lv' := [(4, .int 1), (2, .long 0), (0, .ref (al 8 0)), (1, .int h)]) hx hb dX5_together_3 hl (by decide) rfl (fun ls hl => ?_)
  refine w_loopP (hd := 5) (stk := []) (X := Nat) (fun j => n - j) (fun j ls => (j ≤ n) ∧ lv_has ls 5 [(4, .int (nI (j + 1))), (2, .long (mTg μ r h j)), (1, .int h), (0, .ref (al 8 0))]) (fun j ls hk ih_5 => ?_) 0 ls ⟨Nat.zero_le _, (by have h9 := lv_sub hl [0, 1, 3, 2] rfl; rw [show (1 : Int32) = nI (0 + 1) from rfl] at h9; exact h9)⟩
  obtain ⟨hk, hl⟩ := hk
  have hl : lv_has ls 5 [(4, .int (nI (j + 1))), (2, .long (mTg μ r h j)), (1, .int h), (0, .ref (al 8 0))] := hl
  refine lv_iload hx hb dX5_together_5 (lv_at hl 0 rfl) ?_
  refine lv_aload_n hx hb dX5_together_7 rfl (lv_at hl 3 rfl) ?_
  refine sx_get (ci := 5) (C := RX5) (T := TX5) (N := 24) (v := .int (fI μ 8 0 1)) hx hb hts inX5 hown hK (c8_at hI) rfl 1 (by decide) (hts _ w_3_37) rfl rfl dX5_together_8 ?_
  refine lv_icmp_gt (tgt := 44) hx hb dX5_together_11 (by decide) (fun c_11 => ?_) (fun c_11 => ?_)
  · have hj9 := gt_end hgn c_11 hk (by omega)
    subst hj9
    refine lv_lload_n hx hb dX5_together_44 rfl (lv_at hl 1 rfl) ?_
    refine lv_ldc2 (v := 2000000000) hx hb hown (hts _ w_3_170) dX5_together_45 ?_
    refine W.lcmp hx hb dX5_together_48 ?_
    refine lv_if_le (tgt := 58) hx hb dX5_together_49 (by decide) (fun c_49 => ?_) (fun c_49 => ?_)
    · have c_49 : (mTg μ r h j) ≤ 2000000000 := (lg_cmp_le _ _).mp c_49
      refine lv_lload_n hx hb dX5_together_58 rfl (lv_at hl 1 rfl) ?_
      exact W.lret (v := mTg μ r h j) hx hb hr (fun t ht hW => ⟨_, rfl, (by unfold mTog; rw [if_pos c_49]), ht⟩) (fun q h => by cases h) dX5_together_59
    · have c_49 : ¬ (mTg μ r h j) ≤ 2000000000 := fun h => c_49 ((lg_cmp_le _ _).mpr h)
      refine lv_ldc2 (v := 2000000000) hx hb hown (hts _ w_3_170) dX5_together_52 ?_
      refine lv_goto (tgt := 59) hx hb dX5_together_55 (by decide) ?_
      exact W.lret (v := 2000000000) hx hb hr (fun t ht hW => ⟨_, rfl, (by unfold mTog; rw [if_neg c_49]), ht⟩) (fun q h => by cases h) dX5_together_59
  · have hjn : j < n := gt_lt hgn c_11 (by omega) (by omega)
    have hcj : (nI (j + 1)).toNatClampNeg = j + 1 := nI_clamp (by omega)
    refine lv_lload_n hx hb dX5_together_14 rfl (lv_at hl 1 rfl) ?_
    refine lv_aload_n hx hb dX5_together_15 rfl (lv_at hl 3 rfl) ?_
    refine sx_get (ci := 5) (C := RX5) (T := TX5) (N := 24) (v := .ref (al 9 0)) hx hb hts inX5 hown hK (c8_at hI) rfl 3 (by decide) (hts _ w_3_39) rfl rfl dX5_together_16 ?_
    refine lv_iload hx hb dX5_together_19 (lv_at hl 0 rfl) ?_
    refine sx_iald hx hb hK (c9_0_at hI) 0 rfl (vp_in_nI (show j + 1 < 21 by omega) (by decide)) dX5_together_21 ?_
    rw [hcj]
    refine lv_iload_n hx hb dX5_together_22 rfl (lv_at hl 2 rfl) ?_
    refine lv_icmp_ne (tgt := 35) hx hb dX5_together_23 (by decide) (fun c_23 => ?_) (fun c_23 => ?_)
    · refine lv_lconst (v := 0) hx hb dX5_together_35 (by decide) ?_
      refine lv_ladd hx hb dX5_together_36 ?_
      refine W.eq (g2 := F0 m 37 ls (.long (mTg μ r h (j + 1)) :: [])) (by rw [mTg, if_neg c_23]) ?_
      refine lv_lstore_n (lv' := [(2, .long (mTg μ r h (j + 1))), (4, .int (nI (j + 1))), (1, .int h), (0, .ref (al 8 0))]) hx hb dX5_together_37 rfl hl (by decide) rfl (fun ls hl => ?_)
      refine lv_iinc (v := (nI (j + 1)) + 1) (lv' := [(4, .int ((nI (j + 1)) + 1)), (2, .long (mTg μ r h (j + 1))), (1, .int h), (0, .ref (al 8 0))]) hx hb dX5_together_38 hl (k := 1) rfl rfl (by decide) rfl (fun ls hl => ?_)
      refine lv_goto (tgt := 5) hx hb dX5_together_41 (by decide) ?_
      exact ih_5 (j + 1) ls (by omega) ⟨hjn, (by have h9 := lv_sub hl [0, 1, 2, 3] rfl; rw [nI_1] at h9; exact h9)⟩
    · refine lv_aload_n hx hb dX5_together_26 rfl (lv_at hl 3 rfl) ?_
      refine lv_iload hx hb dX5_together_27 (lv_at hl 0 rfl) ?_
      refine vp_callSl (W.runV (As := [.int (nI (j + 1))]) (rest := [.long (mTg μ r h j)]) ⟨hx, hb, hml, hown, hts⟩ (m_may l D dA sa lo al σ μ (j + 1) n r hw (by omega) (by omega)) (cwV 1 hts (gdV w_3_150 w_3_152 wp_13 w_1_3 w_3_153) rfl rfl rfl (by decide +kernel) ⟨Nat.le_of_ble_eq_true rfl, Nat.le_of_ble_eq_true rfl⟩) ⟨iv_bl, sx_recv hK (c8_at hI) rfl, fun U hU hW => ⟨rfl, iv_use hI hwd hS hU hW⟩⟩ rfl rfl hl.1 rfl (lv_room (Nat.le_of_ble_eq_true rfl)) dX5_together_29 ⟨Nat.le_of_ble_eq_true rfl, Nat.le_of_ble_eq_true rfl⟩) (fun r_29 e_29 => ?_)
      subst e_29
      refine lv_goto (tgt := 36) hx hb dX5_together_32 (by decide) ?_
      refine lv_ladd hx hb dX5_together_36 ?_
      refine W.eq (g2 := F0 m 37 ls (.long (mTg μ r h (j + 1)) :: [])) (by rw [mTg, if_pos c_23]) ?_
      refine lv_lstore_n (lv' := [(2, .long (mTg μ r h (j + 1))), (4, .int (nI (j + 1))), (1, .int h), (0, .ref (al 8 0))]) hx hb dX5_together_37 rfl hl (by decide) rfl (fun ls hl => ?_)
      refine lv_iinc (v := (nI (j + 1)) + 1) (lv' := [(4, .int ((nI (j + 1)) + 1)), (2, .long (mTg μ r h (j + 1))), (1, .int h), (0, .ref (al 8 0))]) hx hb dX5_together_38 hl (k := 1) rfl rfl (by decide) rfl (fun ls hl => ?_)
      refine lv_goto (tgt := 5) hx hb dX5_together_41 (by decide) ?_
      exact ih_5 (j + 1) ls (by omega) ⟨hjn, (by have h9 := lv_sub hl [0, 1, 2, 3] rfl; rw [nI_1] at h9; exact h9)⟩

set_option maxHeartbeats 4000000 in
set_option maxRecDepth 100000 in
theorem m_covered (l : Launch) (D : va_G) (dA : Nat → ClassId) (sa : Nat → Nat) (lo : Nat) (al : Nat → Nat → Nat) (σ μ : CS) (j pq : Nat) (hj : j ≤ 60) (hp4 : pq ≤ 4) (hp : fI μ 9 15 j = nI pq) : Met l yX5_covered wsX5_covered ({ frames := 0, cells := 0, slots := 0, locals := 0 }) (va_Pc [.ref (al 8 0), .int (nI j)] (ivP D dA sa lo al σ μ)) (vp_Sl (fun z9 => z9 = mCov μ j pq)) 0 0 (fun _ => False) := by
  refine Met.ofW (cc := cX5_covered) (maxL := 5) (ret := some .long) (by decide) rfl ?_
  intro p e s m args below meth c s₁ B hml hv
  obtain ⟨rfl, hI, hwd⟩ := hv
  have hx := B.exec
  have hb := B.bytes
  have hr := B.returns
  have hts : ∀ w ∈ WSall, w.before _ s = true := fun w h => atoms_spec (ws := wsX5_covered) B.pre w (List.mem_cons_of_mem _ h)
  have hown : s.vm.findClass RX5 = some m.cls := findClass_of_methodNamed B.named
  have hlocks := B.notSynchronized
  have hK := hwd.1
  have hS : va_S (fun q => lo ≤ q) s.heap s.heap [] := va_S.rf
  have hl := lv_entry ([.ref (al 8 0), .int (nI j)]) (n := 5) (Nat.le_of_ble_eq_true rfl)
  rw [lg_entry_eq]
  generalize (lg_sl ([.ref (al 8 0), .int (nI j)]) ++ List.replicate (5 - (lg_sl ([.ref (al 8 0), .int (nI j)])).length) Slot.unset).toArray = ls at hl ⊢
  have hl : lv_has ls 5 [(0, .ref (al 8 0)), (1, .int (nI j))] := hl
  have hcj : (nI j).toNatClampNeg = j := nI_clamp (by omega)
  refine lv_lconst (v := 0) hx hb dX5_covered_0 (by decide) ?_
  refine lv_lstore_n (lv' := [(2, .long 0), (0, .ref (al 8 0)), (1, .int (nI j))]) hx hb dX5_covered_1 rfl hl (by decide) rfl (fun ls hl => ?_)
  refine lv_iconst (v := 4) hx hb dX5_covered_2 (by decide) ?_
  refine lv_iload_n hx hb dX5_covered_3 rfl (lv_at hl 2 rfl) ?_
  refine lv_imul hx hb dX5_covered_4 ?_
  refine lv_istore (lv' := [(4, .int (4 * (nI j))), (2, .long 0), (0, .ref (al 8 0)), (1, .int (nI j))]) hx hb dX5_covered_5 hl (by decide) rfl (fun ls hl => ?_)
  refine w_loopP (hd := 7) (stk := []) (X := Nat) (fun k => pq - k) (fun k ls => (k ≤ pq) ∧ lv_has ls 5 [(4, .int (nI (4 * j + k))), (2, .long (mCov μ j k)), (1, .int (nI j)), (0, .ref (al 8 0))]) (fun k ls hk ih_7 => ?_) 0 ls ⟨Nat.zero_le _, (by have h9 := lv_sub hl [0, 1, 3, 2] rfl; rw [i4mul] at h9; exact h9)⟩
  obtain ⟨hk, hl⟩ := hk
  have hl : lv_has ls 5 [(4, .int (nI (4 * j + k))), (2, .long (mCov μ j k)), (1, .int (nI j)), (0, .ref (al 8 0))] := hl
  refine lv_iload hx hb dX5_covered_7 (lv_at hl 0 rfl) ?_
  refine lv_iconst (v := 4) hx hb dX5_covered_9 (by decide) ?_
  refine lv_iload_n hx hb dX5_covered_10 rfl (lv_at hl 2 rfl) ?_
  refine lv_imul hx hb dX5_covered_11 ?_
  refine W.eq (g2 := F0 m 12 ls (.int (nI (4 * j)) :: [.int (nI (4 * j + k))])) (by rw [i4mul]) ?_
  refine lv_aload_n hx hb dX5_covered_12 rfl (lv_at hl 3 rfl) ?_
  refine sx_get (ci := 5) (C := RX5) (T := TX5) (N := 24) (v := .ref (al 9 15)) hx hb hts inX5 hown hK (c8_at hI) rfl 19 (by decide) (hts _ w_3_55) rfl rfl dX5_covered_13 ?_
  refine lv_iload_n hx hb dX5_covered_16 rfl (lv_at hl 2 rfl) ?_
  refine sx_iald hx hb hK (c9_15_at hI) 0 rfl (vp_in_nI (show j < 61 by omega) (by decide)) dX5_covered_17 ?_
  rw [hcj]
  refine lv_iadd hx hb dX5_covered_18 ?_
  refine W.eq (g2 := F0 m 19 ls (.int (nI (4 * j + pq)) :: [.int (nI (4 * j + k))])) (by rw [hp, nI_add]) ?_
  refine lv_icmp_ge (tgt := 38) hx hb dX5_covered_19 (by decide) (fun c_19 => ?_) (fun c_19 => ?_)
  · refine lv_lload_n hx hb dX5_covered_38 rfl (lv_at hl 1 rfl) ?_
    exact W.lret (v := mCov μ j k) hx hb hr (fun t ht hW => ⟨_, rfl, (by have h := lp_end (x := nI (4 * j + pq)) rfl c_19 (by omega) (by omega); have h : k = pq := (by omega); subst h; rfl), ht⟩) (fun q h => by cases h) dX5_covered_39
  · have hlt : k < pq := by
      have := lp_lt (x := nI (4 * j + pq)) rfl c_19 (by omega)
      omega
    have hck : (nI (4 * j + k)).toNatClampNeg = 4 * j + k := nI_clamp (by omega)
    refine lv_lload_n hx hb dX5_covered_22 rfl (lv_at hl 1 rfl) ?_
    refine lv_aload_n hx hb dX5_covered_23 rfl (lv_at hl 3 rfl) ?_
    refine sx_get (ci := 5) (C := RX5) (T := TX5) (N := 24) (v := .ref (al 9 17)) hx hb hts inX5 hown hK (c8_at hI) rfl 21 (by decide) (hts _ w_3_57) rfl rfl dX5_covered_24 ?_
    refine lv_iload hx hb dX5_covered_27 (lv_at hl 0 rfl) ?_
    refine sx_lald hx hb hK (c9_17_at hI) 1 rfl (vp_in_nI (show 4 * j + k < 244 by omega) (by decide)) dX5_covered_29 ?_
    rw [hck]
    refine lv_ladd hx hb dX5_covered_30 ?_
    refine lv_lstore_n (lv' := [(2, .long ((mCov μ j k) + (fL μ 9 17 (4 * j + k)))), (4, .int (nI (4 * j + k))), (1, .int (nI j)), (0, .ref (al 8 0))]) hx hb dX5_covered_31 rfl hl (by decide) rfl (fun ls hl => ?_)
    refine lv_iinc (v := (nI (4 * j + k)) + 1) (lv' := [(4, .int ((nI (4 * j + k)) + 1)), (2, .long ((mCov μ j k) + (fL μ 9 17 (4 * j + k)))), (1, .int (nI j)), (0, .ref (al 8 0))]) hx hb dX5_covered_32 hl (k := 1) rfl rfl (by decide) rfl (fun ls hl => ?_)
    refine lv_goto (tgt := 7) hx hb dX5_covered_35 (by decide) ?_
    exact ih_7 (k + 1) ls (by omega) ⟨hlt, (by have h9 := lv_sub hl [0, 1, 2, 3] rfl; rw [nI_1] at h9; exact h9)⟩

set_option maxHeartbeats 4000000 in
set_option maxRecDepth 100000 in
theorem m_running (l : Launch) (D : va_G) (dA : Nat → ClassId) (sa : Nat → Nat) (lo : Nat) (al : Nat → Nat → Nat) (σ μ : CS) (g : Nat) (hg : g ≤ 20) : Met l yX5_running wsX5_running ({ frames := 0, cells := 0, slots := 0, locals := 0 }) (va_Pc [.ref (al 8 0), .int (nI g)] (ivP D dA sa lo al σ μ)) (vp_Sl (fun z9 => z9 = mRun μ g)) 0 0 (fun _ => False) := by
  refine Met.ofW (cc := cX5_running) (maxL := 3) (ret := some .long) (by decide) rfl ?_
  intro p e s m args below meth c s₁ B hml hv
  obtain ⟨rfl, hI, hwd⟩ := hv
  have hx := B.exec
  have hb := B.bytes
  have hr := B.returns
  have hts : ∀ w ∈ WSall, w.before _ s = true := fun w h => atoms_spec (ws := wsX5_running) B.pre w (List.mem_cons_of_mem _ h)
  have hown : s.vm.findClass RX5 = some m.cls := findClass_of_methodNamed B.named
  have hlocks := B.notSynchronized
  have hK := hwd.1
  have hS : va_S (fun q => lo ≤ q) s.heap s.heap [] := va_S.rf
  have hl := lv_entry ([.ref (al 8 0), .int (nI g)]) (n := 3) (Nat.le_of_ble_eq_true rfl)
  rw [lg_entry_eq]
  generalize (lg_sl ([.ref (al 8 0), .int (nI g)]) ++ List.replicate (3 - (lg_sl ([.ref (al 8 0), .int (nI g)])).length) Slot.unset).toArray = ls at hl ⊢
  have hl : lv_has ls 3 [(0, .ref (al 8 0)), (1, .int (nI g))] := hl
  have hcg : (nI g).toNatClampNeg = g := nI_clamp (by omega)
  refine lv_aload_n hx hb dX5_running_0 rfl (lv_at hl 0 rfl) ?_
  refine sx_get (ci := 5) (C := RX5) (T := TX5) (N := 24) (v := .ref (al 9 6)) hx hb hts inX5 hown hK (c8_at hI) rfl 9 (by decide) (hts _ w_3_45) rfl rfl dX5_running_1 ?_
  refine lv_iload_n hx hb dX5_running_4 rfl (lv_at hl 1 rfl) ?_
  refine sx_zald hx hb hK (c9_6_at hI) 2 rfl (vp_in_nI (show g < 21 by omega) (by decide)) dX5_running_5 ?_
  rw [hcg]
  refine lv_if_eq (tgt := 18) hx hb dX5_running_6 (by decide) (fun c_6 => ?_) (fun c_6 => ?_)
  · refine lv_aload_n hx hb dX5_running_18 rfl (lv_at hl 0 rfl) ?_
    refine sx_get (ci := 5) (C := RX5) (T := TX5) (N := 24) (v := .int (fI μ 8 0 2)) hx hb hts inX5 hown hK (c8_at hI) rfl 2 (by decide) (hts _ w_3_38) rfl rfl dX5_running_19 ?_
    refine lv_istore_n (lv' := [(2, .int (fI μ 8 0 2)), (0, .ref (al 8 0)), (1, .int (nI g))]) hx hb dX5_running_22 rfl hl (by decide) rfl (fun ls hl => ?_)
    refine lv_iload_n hx hb dX5_running_23 rfl (lv_at hl 0 rfl) ?_
    refine lv_aload_n hx hb dX5_running_24 rfl (lv_at hl 1 rfl) ?_
    refine sx_get (ci := 5) (C := RX5) (T := TX5) (N := 24) (v := .ref (al 9 10)) hx hb hts inX5 hown hK (c8_at hI) rfl 13 (by decide) (hts _ w_3_49) rfl rfl dX5_running_25 ?_
    refine lv_iload_n hx hb dX5_running_28 rfl (lv_at hl 2 rfl) ?_
    refine sx_iald hx hb hK (c9_10_at hI) 0 rfl (vp_in_nI (show g < 21 by omega) (by decide)) dX5_running_29 ?_
    rw [hcg]
    refine lv_icmp_gt (tgt := 37) hx hb dX5_running_30 (by decide) (fun c_30 => ?_) (fun c_30 => ?_)
    · refine lv_aload_n hx hb dX5_running_37 rfl (lv_at hl 1 rfl) ?_
      refine sx_get (ci := 5) (C := RX5) (T := TX5) (N := 24) (v := .ref (al 9 1)) hx hb hts inX5 hown hK (c8_at hI) rfl 4 (by decide) (hts _ w_3_40) rfl rfl dX5_running_38 ?_
      refine lv_iload_n hx hb dX5_running_41 rfl (lv_at hl 2 rfl) ?_
      refine sx_lald hx hb hK (c9_1_at hI) 1 rfl (vp_in_nI (show g < 21 by omega) (by decide)) dX5_running_42 ?_
      rw [hcg]
      refine lv_iload_n hx hb dX5_running_43 rfl (lv_at hl 0 rfl) ?_
      refine lv_aload_n hx hb dX5_running_44 rfl (lv_at hl 1 rfl) ?_
      refine sx_get (ci := 5) (C := RX5) (T := TX5) (N := 24) (v := .ref (al 9 10)) hx hb hts inX5 hown hK (c8_at hI) rfl 13 (by decide) (hts _ w_3_49) rfl rfl dX5_running_45 ?_
      refine lv_iload_n hx hb dX5_running_48 rfl (lv_at hl 2 rfl) ?_
      refine sx_iald hx hb hK (c9_10_at hI) 0 rfl (vp_in_nI (show g < 21 by omega) (by decide)) dX5_running_49 ?_
      rw [hcg]
      refine lv_isub hx hb dX5_running_50 ?_
      refine lv_i2l hx hb dX5_running_51 rfl ?_
      refine lv_lmul hx hb dX5_running_52 ?_
      refine lv_aload_n hx hb dX5_running_53 rfl (lv_at hl 1 rfl) ?_
      refine sx_get (ci := 5) (C := RX5) (T := TX5) (N := 24) (v := .ref (al 9 5)) hx hb hts inX5 hown hK (c8_at hI) rfl 8 (by decide) (hts _ w_3_44) rfl rfl dX5_running_54 ?_
      refine lv_iload_n hx hb dX5_running_57 rfl (lv_at hl 2 rfl) ?_
      refine sx_iald hx hb hK (c9_5_at hI) 0 rfl (vp_in_nI (show g < 21 by omega) (by decide)) dX5_running_58 ?_
      rw [hcg]
      refine lv_i2l hx hb dX5_running_59 rfl ?_
      refine lv_lmul hx hb dX5_running_60 ?_
      refine lv_ldc2 (v := 3650000) hx hb hown (hts _ w_3_210) dX5_running_61 ?_
      refine lv_ldiv hx hb dX5_running_64 (by decide) ?_
      exact W.lret (v := (((fL μ 9 1 g) * ((fI μ 8 0 2) - (fI μ 9 10 g)).toInt64) * (fI μ 9 5 g).toInt64) / 3650000) hx hb hr (fun t ht hW => ⟨_, rfl, (by unfold mRun; simp only [if_pos c_6]; rw [if_neg (run_le c_30)]), ht⟩) (fun q h => by cases h) dX5_running_65
    · refine lv_lconst (v := 0) hx hb dX5_running_33 (by decide) ?_
      refine lv_goto (tgt := 65) hx hb dX5_running_34 (by decide) ?_
      exact W.lret (v := 0) hx hb hr (fun t ht hW => ⟨_, rfl, (by unfold mRun; simp only [if_pos c_6]; rw [if_pos (run_le2 c_30)]), ht⟩) (fun q h => by cases h) dX5_running_65
  · refine lv_aload_n hx hb dX5_running_9 rfl (lv_at hl 0 rfl) ?_
    refine sx_get (ci := 5) (C := RX5) (T := TX5) (N := 24) (v := .ref (al 9 7)) hx hb hts inX5 hown hK (c8_at hI) rfl 10 (by decide) (hts _ w_3_46) rfl rfl dX5_running_10 ?_
    refine lv_iload_n hx hb dX5_running_13 rfl (lv_at hl 1 rfl) ?_
    refine sx_iald hx hb hK (c9_7_at hI) 0 rfl (vp_in_nI (show g < 21 by omega) (by decide)) dX5_running_14 ?_
    rw [hcg]
    refine lv_goto (tgt := 22) hx hb dX5_running_15 (by decide) ?_
    refine lv_istore_n (lv' := [(2, .int (fI μ 9 7 g)), (0, .ref (al 8 0)), (1, .int (nI g))]) hx hb dX5_running_22 rfl hl (by decide) rfl (fun ls hl => ?_)
    refine lv_iload_n hx hb dX5_running_23 rfl (lv_at hl 0 rfl) ?_
    refine lv_aload_n hx hb dX5_running_24 rfl (lv_at hl 1 rfl) ?_
    refine sx_get (ci := 5) (C := RX5) (T := TX5) (N := 24) (v := .ref (al 9 10)) hx hb hts inX5 hown hK (c8_at hI) rfl 13 (by decide) (hts _ w_3_49) rfl rfl dX5_running_25 ?_
    refine lv_iload_n hx hb dX5_running_28 rfl (lv_at hl 2 rfl) ?_
    refine sx_iald hx hb hK (c9_10_at hI) 0 rfl (vp_in_nI (show g < 21 by omega) (by decide)) dX5_running_29 ?_
    rw [hcg]
    refine lv_icmp_gt (tgt := 37) hx hb dX5_running_30 (by decide) (fun c_30 => ?_) (fun c_30 => ?_)
    · refine lv_aload_n hx hb dX5_running_37 rfl (lv_at hl 1 rfl) ?_
      refine sx_get (ci := 5) (C := RX5) (T := TX5) (N := 24) (v := .ref (al 9 1)) hx hb hts inX5 hown hK (c8_at hI) rfl 4 (by decide) (hts _ w_3_40) rfl rfl dX5_running_38 ?_
      refine lv_iload_n hx hb dX5_running_41 rfl (lv_at hl 2 rfl) ?_
      refine sx_lald hx hb hK (c9_1_at hI) 1 rfl (vp_in_nI (show g < 21 by omega) (by decide)) dX5_running_42 ?_
      rw [hcg]
      refine lv_iload_n hx hb dX5_running_43 rfl (lv_at hl 0 rfl) ?_
      refine lv_aload_n hx hb dX5_running_44 rfl (lv_at hl 1 rfl) ?_
      refine sx_get (ci := 5) (C := RX5) (T := TX5) (N := 24) (v := .ref (al 9 10)) hx hb hts inX5 hown hK (c8_at hI) rfl 13 (by decide) (hts _ w_3_49) rfl rfl dX5_running_45 ?_
      refine lv_iload_n hx hb dX5_running_48 rfl (lv_at hl 2 rfl) ?_
      refine sx_iald hx hb hK (c9_10_at hI) 0 rfl (vp_in_nI (show g < 21 by omega) (by decide)) dX5_running_49 ?_
      rw [hcg]
      refine lv_isub hx hb dX5_running_50 ?_
      refine lv_i2l hx hb dX5_running_51 rfl ?_
      refine lv_lmul hx hb dX5_running_52 ?_
      refine lv_aload_n hx hb dX5_running_53 rfl (lv_at hl 1 rfl) ?_
      refine sx_get (ci := 5) (C := RX5) (T := TX5) (N := 24) (v := .ref (al 9 5)) hx hb hts inX5 hown hK (c8_at hI) rfl 8 (by decide) (hts _ w_3_44) rfl rfl dX5_running_54 ?_
      refine lv_iload_n hx hb dX5_running_57 rfl (lv_at hl 2 rfl) ?_
      refine sx_iald hx hb hK (c9_5_at hI) 0 rfl (vp_in_nI (show g < 21 by omega) (by decide)) dX5_running_58 ?_
      rw [hcg]
      refine lv_i2l hx hb dX5_running_59 rfl ?_
      refine lv_lmul hx hb dX5_running_60 ?_
      refine lv_ldc2 (v := 3650000) hx hb hown (hts _ w_3_210) dX5_running_61 ?_
      refine lv_ldiv hx hb dX5_running_64 (by decide) ?_
      exact W.lret (v := (((fL μ 9 1 g) * ((fI μ 9 7 g) - (fI μ 9 10 g)).toInt64) * (fI μ 9 5 g).toInt64) / 3650000) hx hb hr (fun t ht hW => ⟨_, rfl, (by unfold mRun; simp only [if_neg c_6]; rw [if_neg (run_le c_30)]), ht⟩) (fun q h => by cases h) dX5_running_65
    · refine lv_lconst (v := 0) hx hb dX5_running_33 (by decide) ?_
      refine lv_goto (tgt := 65) hx hb dX5_running_34 (by decide) ?_
      exact W.lret (v := 0) hx hb hr (fun t ht hW => ⟨_, rfl, (by unfold mRun; simp only [if_neg c_6]; rw [if_pos (run_le2 c_30)]), ht⟩) (fun q h => by cases h) dX5_running_65

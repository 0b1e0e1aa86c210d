set_option maxHeartbeats 4000000 in
set_option maxRecDepth 100000 in
theorem m_guarantee (l : Launch) (D : va_G) (dA : Nat → ClassId) (sa : Nat → Nat) (lo : Nat) (al : Nat → Nat → Nat) (σ μ : CS) (h : Int32) (a : Int64) (ua d one rt : Int32) (hon : one = 0 ∨ one = 1) (n r : Nat) (hw : WFm μ n r) : Met l yX5_guarantee wsX5_guarantee ({ frames := 1, cells := 0, slots := 0, locals := 30 }) (va_Pc [.ref (al 8 0), .int h, .long a, .int ua, .int d, .int one, .int rt] (ivP D dA sa lo al σ μ)) (va_Qi (fun z9 u => (z9, u) = cGuarM μ n h a ua d one rt) (ivM D dA lo al σ) (fun q => lo ≤ q)) 0 0 (fun q => lo ≤ q) := by
  refine Met.ofW (cc := cX5_guarantee) (maxL := 9) (ret := some .int) (by decide) rfl ?_
  intro p e s m args below meth c s₁ B hml hv
  obtain ⟨rfl, hI, hwd⟩ := hv
  have hx := B.exec
  have hb := B.bytes
  have hr := B.returns
  have hts : ∀ w ∈ WSall, w.before _ s = true := fun w h => atoms_spec (ws := wsX5_guarantee) B.pre w (List.mem_cons_of_mem _ h)
  have hown : s.vm.findClass RX5 = some m.cls := findClass_of_methodNamed B.named
  have hlocks := B.notSynchronized
  have hK := hwd.1
  have hS : va_S (fun q => lo ≤ q) s.heap s.heap [] := va_S.rf
  have hl := lv_entry ([.ref (al 8 0), .int h, .long a, .int ua, .int d, .int one, .int rt]) (n := 9) (Nat.le_of_ble_eq_true rfl)
  rw [lg_entry_eq]
  generalize (lg_sl ([.ref (al 8 0), .int h, .long a, .int ua, .int d, .int one, .int rt]) ++ List.replicate (9 - (lg_sl ([.ref (al 8 0), .int h, .long a, .int ua, .int d, .int one, .int rt])).length) Slot.unset).toArray = ls at hl ⊢
  have hl : lv_has ls 9 [(0, .ref (al 8 0)), (1, .int h), (2, .long a), (4, .int ua), (5, .int d), (6, .int one), (7, .int rt)] := hl
  obtain ⟨hn20, hr60, hgn, hrn, hor, hpt, hpr, hdn⟩ := id hw
  have hcn : (fI μ 8 0 1).toNatClampNeg = n := by rw [hgn]; exact nI_clamp (by omega)
  refine jn_i (tgt := 62) (rest := []) (ls := ls) (P := fun b9 => b9 = bp (mGood a ua d rt) inferInstance) (fun J_0 => ?_) (fun b9 hb9 => ?_)
  · refine lv_lload_n hx hb dX5_guarantee_0 rfl (lv_at hl 2 rfl) ?_
    refine lv_lconst (v := 1) hx hb dX5_guarantee_1 (by decide) ?_
    refine lv_ldc2 (v := 1000000000) hx hb hown (hts _ w_3_117) dX5_guarantee_2 ?_
    refine vp_callSi (W.runS (As := [.long a, .long 1, .long 1000000000]) (rest := []) ⟨hx, hb, hml, hown, hts⟩ (m_in l D dA sa lo al σ μ a 1 1000000000) (cwS 3 hts (gdS w_3_118 w_3_119 w_1_3 w_3_120) rfl rfl rfl (by decide +kernel) ⟨Nat.le_of_ble_eq_true rfl, Nat.le_of_ble_eq_true rfl⟩) ⟨iv_bl, fun U hU hW => ⟨rfl, iv_use hI hwd hS hU hW⟩⟩ rfl rfl hl.1 rfl (lv_room (Nat.le_of_ble_eq_true rfl)) dX5_guarantee_5 ⟨Nat.le_of_ble_eq_true rfl, Nat.le_of_ble_eq_true rfl⟩) (fun r_5 e_5 => ?_)
    subst e_5
    refine lv_if_eq (tgt := 61) hx hb dX5_guarantee_8 (by decide) (fun c_8 => ?_) (fun c_8 => ?_)
    · have c_8 := bp_0.mp c_8
      refine lv_iconst (v := 0) hx hb dX5_guarantee_61 (by decide) ?_
      exact J_0 _ (bp_f (fun h => c_8 h.1))
    · have c_8 := bp_n0.mp c_8
      refine lv_iload hx hb dX5_guarantee_11 (lv_at hl 3 rfl) ?_
      refine lv_i2l hx hb dX5_guarantee_13 rfl ?_
      refine lv_lconst (v := 0) hx hb dX5_guarantee_14 (by decide) ?_
      refine lv_ldc2 (v := 100) hx hb hown (hts _ w_3_121) dX5_guarantee_15 ?_
      refine vp_callSi (W.runS (As := [.long ua.toInt64, .long 0, .long 100]) (rest := []) ⟨hx, hb, hml, hown, hts⟩ (m_in l D dA sa lo al σ μ ua.toInt64 0 100) (cwS 3 hts (gdS w_3_118 w_3_119 w_1_3 w_3_120) rfl rfl rfl (by decide +kernel) ⟨Nat.le_of_ble_eq_true rfl, Nat.le_of_ble_eq_true rfl⟩) ⟨iv_bl, fun U hU hW => ⟨rfl, iv_use hI hwd hS hU hW⟩⟩ rfl rfl hl.1 rfl (lv_room (Nat.le_of_ble_eq_true rfl)) dX5_guarantee_18 ⟨Nat.le_of_ble_eq_true rfl, Nat.le_of_ble_eq_true rfl⟩) (fun r_18 e_18 => ?_)
      subst e_18
      refine lv_if_eq (tgt := 61) hx hb dX5_guarantee_21 (by decide) (fun c_21 => ?_) (fun c_21 => ?_)
      · have c_21 := bp_0.mp c_21
        refine lv_iconst (v := 0) hx hb dX5_guarantee_61 (by decide) ?_
        exact J_0 _ (bp_f (fun h => c_21 h.2.1))
      · have c_21 := bp_n0.mp c_21
        refine lv_iload hx hb dX5_guarantee_24 (lv_at hl 4 rfl) ?_
        refine lv_i2l hx hb dX5_guarantee_26 rfl ?_
        refine lv_lconst (v := 1) hx hb dX5_guarantee_27 (by decide) ?_
        refine lv_ldc2 (v := 100) hx hb hown (hts _ w_3_121) dX5_guarantee_28 ?_
        refine vp_callSi (W.runS (As := [.long d.toInt64, .long 1, .long 100]) (rest := []) ⟨hx, hb, hml, hown, hts⟩ (m_in l D dA sa lo al σ μ d.toInt64 1 100) (cwS 3 hts (gdS w_3_118 w_3_119 w_1_3 w_3_120) rfl rfl rfl (by decide +kernel) ⟨Nat.le_of_ble_eq_true rfl, Nat.le_of_ble_eq_true rfl⟩) ⟨iv_bl, fun U hU hW => ⟨rfl, iv_use hI hwd hS hU hW⟩⟩ rfl rfl hl.1 rfl (lv_room (Nat.le_of_ble_eq_true rfl)) dX5_guarantee_31 ⟨Nat.le_of_ble_eq_true rfl, Nat.le_of_ble_eq_true rfl⟩) (fun r_31 e_31 => ?_)
        subst e_31
        refine lv_if_eq (tgt := 61) hx hb dX5_guarantee_34 (by decide) (fun c_34 => ?_) (fun c_34 => ?_)
        · have c_34 := bp_0.mp c_34
          refine lv_iconst (v := 0) hx hb dX5_guarantee_61 (by decide) ?_
          exact J_0 _ (bp_f (fun h => c_34 h.2.2.1))
        · have c_34 := bp_n0.mp c_34
          refine lv_iload hx hb dX5_guarantee_37 (lv_at hl 3 rfl) ?_
          refine lv_iload hx hb dX5_guarantee_39 (lv_at hl 4 rfl) ?_
          refine lv_icmp_gt (tgt := 61) hx hb dX5_guarantee_41 (by decide) (fun c_41 => ?_) (fun c_41 => ?_)
          · refine lv_iconst (v := 0) hx hb dX5_guarantee_61 (by decide) ?_
            exact J_0 _ (bp_f (fun h => h.2.2.2.1 c_41))
          · refine lv_iload hx hb dX5_guarantee_44 (lv_at hl 6 rfl) ?_
            refine lv_i2l hx hb dX5_guarantee_46 rfl ?_
            refine lv_lconst (v := 0) hx hb dX5_guarantee_47 (by decide) ?_
            refine lv_ldc2 (v := 1000) hx hb hown (hts _ w_3_122) dX5_guarantee_48 ?_
            refine vp_callSi (W.runS (As := [.long rt.toInt64, .long 0, .long 1000]) (rest := []) ⟨hx, hb, hml, hown, hts⟩ (m_in l D dA sa lo al σ μ rt.toInt64 0 1000) (cwS 3 hts (gdS w_3_118 w_3_119 w_1_3 w_3_120) rfl rfl rfl (by decide +kernel) ⟨Nat.le_of_ble_eq_true rfl, Nat.le_of_ble_eq_true rfl⟩) ⟨iv_bl, fun U hU hW => ⟨rfl, iv_use hI hwd hS hU hW⟩⟩ rfl rfl hl.1 rfl (lv_room (Nat.le_of_ble_eq_true rfl)) dX5_guarantee_51 ⟨Nat.le_of_ble_eq_true rfl, Nat.le_of_ble_eq_true rfl⟩) (fun r_51 e_51 => ?_)
            subst e_51
            refine lv_if_eq (tgt := 61) hx hb dX5_guarantee_54 (by decide) (fun c_54 => ?_) (fun c_54 => ?_)
            · have c_54 := bp_0.mp c_54
              refine lv_iconst (v := 0) hx hb dX5_guarantee_61 (by decide) ?_
              exact J_0 _ (bp_f (fun h => c_54 h.2.2.2.2))
            · have c_54 := bp_n0.mp c_54
              refine lv_iconst (v := 1) hx hb dX5_guarantee_57 (by decide) ?_
              refine lv_goto (tgt := 62) hx hb dX5_guarantee_58 (by decide) ?_
              exact J_0 _ (bp_t ⟨c_8, c_21, c_34, c_41, c_54⟩)
  · subst hb9
    refine lv_istore (lv' := [(8, .int (bp (mGood a ua d rt) inferInstance)), (0, .ref (al 8 0)), (1, .int h), (2, .long a), (4, .int ua), (5, .int d), (6, .int one), (7, .int rt)]) hx hb dX5_guarantee_62 hl (by decide) rfl (fun ls hl => ?_)
    refine lv_iload_n hx hb dX5_guarantee_64 rfl (lv_at hl 2 rfl) ?_
    refine vp_callSi (W.runS (As := [.int h]) (rest := []) ⟨hx, hb, hml, hown, hts⟩ (m_isHolder l D dA sa lo al σ μ h) (cwS 1 hts (gdS w_3_123 w_3_124 w_1_3 w_3_125) rfl rfl rfl (by decide +kernel) ⟨Nat.le_of_ble_eq_true rfl, Nat.le_of_ble_eq_true rfl⟩) ⟨iv_bl, fun U hU hW => ⟨rfl, iv_use hI hwd hS hU hW⟩⟩ rfl rfl hl.1 rfl (lv_room (Nat.le_of_ble_eq_true rfl)) dX5_guarantee_65 ⟨Nat.le_of_ble_eq_true rfl, Nat.le_of_ble_eq_true rfl⟩) (fun r_65 e_65 => ?_)
    subst e_65
    refine lv_if_eq (tgt := 76) hx hb dX5_guarantee_68 (by decide) (fun c_68 => ?_) (fun c_68 => ?_)
    · have c_68 := bp_0.mp c_68
      refine lv_aload_n hx hb dX5_guarantee_76 rfl (lv_at hl 1 rfl) ?_
      refine lv_iconst (v := 1) hx hb dX5_guarantee_77 (by decide) ?_
      refine va_calli (va_runV (As := [.int 1]) (rest := []) ⟨hx, hb, hml, hown, hts⟩ (m_refuse l D dA sa lo al σ μ 1) (cwV 1 hts (gdV w_3_126 w_3_128 wp_10 w_1_3 w_3_129) rfl rfl rfl (by decide +kernel) ⟨Nat.le_of_ble_eq_true rfl, Nat.le_of_ble_eq_true rfl⟩) ⟨iv_bl, sx_recv hK (c8_at hI) rfl, fun U hU hW => ⟨rfl, iv_use hI hwd hS hU hW⟩⟩ rfl rfl hl.1 rfl (lv_room (Nat.le_of_ble_eq_true rfl)) dX5_guarantee_78 ⟨Nat.le_of_ble_eq_true rfl, Nat.le_of_ble_eq_true rfl⟩) hS (fun q _ h => h) (fun q h => h) (fun r_78 u9 T9 H1 locs ht9 hvm9 e_78 hB9 hz9 hk9 hS => ?_)
      have hI := iv_takeM ht9 hB9
      clear hB9 hk9
      obtain ⟨rfl, rfl⟩ := e_78
      exact W.iret (v := 0) hx hb hr (fun t ht hW => ⟨⟨0, uI μ 8 0 0 1, rfl, (by unfold cGuarM; rw [if_neg c_68]), iv_giveM ht hI⟩, hS.F ht⟩) hS.2.2 dX5_guarantee_81
    · have c_68 := bp_n0.mp c_68
      refine lv_iload hx hb dX5_guarantee_71 (lv_at hl 0 rfl) ?_
      refine lv_if_ne (tgt := 82) hx hb dX5_guarantee_73 (by decide) (fun c_73 => ?_) (fun c_73 => ?_)
      · have c_73 := bp_n0.mp c_73
        refine lv_aload_n hx hb dX5_guarantee_82 rfl (lv_at hl 1 rfl) ?_
        refine sx_get (ci := 5) (C := RX5) (T := TX5) (N := 24) (v := .int (fI μ 8 0 1)) hx hb hts inX5 hown hK (c8_at hI) rfl 1 (by decide) (hts _ w_3_37) rfl rfl dX5_guarantee_83 ?_
        refine lv_bipush (v := 20) hx hb dX5_guarantee_86 (by decide) ?_
        refine lv_icmp_ne (tgt := 97) hx hb dX5_guarantee_88 (by decide) (fun c_88 => ?_) (fun c_88 => ?_)
        · have hn9 : n < 20 := by
            have : n ≠ 20 := fun e => c_88 (by rw [hgn, e]; rfl)
            omega
          refine lv_aload_n hx hb dX5_guarantee_97 rfl (lv_at hl 1 rfl) ?_
          refine lv_iconst (v := 0) hx hb dX5_guarantee_98 (by decide) ?_
          refine sx_put (ci := 5) (v := .int 0) (ty := .int) (C := RX5) (T := TX5) (N := 24) hx hb hts inX5 tyX5 okX5 nmX5 hown hK hS (c8_at hI) (c8_lo hI) rfl 0 (by decide) (hts _ w_3_36) rfl rfl (by decide +kernel) rfl rfl (Nat.le_of_ble_eq_true rfl) dX5_guarantee_99 (fun H locs hq => ?_)
          have hI := c8_uI (f := 0) (v := 0) hI rfl hq
          have hS := hq.2.2.2
          refine lv_aload_n hx hb dX5_guarantee_102 rfl (lv_at hl 1 rfl) ?_
          refine sx_get (ci := 5) (C := RX5) (T := TX5) (N := 24) (v := .ref (al 9 11)) hx hb hts inX5 hown hK (c8_at hI) rfl 14 (by decide) (hts _ w_3_50) rfl rfl dX5_guarantee_103 ?_
          refine lv_aload_n hx hb dX5_guarantee_106 rfl (lv_at hl 1 rfl) ?_
          refine sx_get (ci := 5) (C := RX5) (T := TX5) (N := 24) (v := .int (fI μ 8 0 1)) hx hb hts inX5 hown hK (c8_at hI) rfl 1 (by decide) (hts _ w_3_37) rfl rfl dX5_guarantee_107 ?_
          refine lv_aload_n hx hb dX5_guarantee_110 rfl (lv_at hl 1 rfl) ?_
          refine sx_get (ci := 5) (C := RX5) (T := TX5) (N := 24) (v := .int (fI μ 8 0 1)) hx hb hts inX5 hown hK (c8_at hI) rfl 1 (by decide) (hts _ w_3_37) rfl rfl dX5_guarantee_111 ?_
          refine lv_iconst (v := 1) hx hb dX5_guarantee_114 (by decide) ?_
          refine lv_iadd hx hb dX5_guarantee_115 ?_
          refine sx_iast hx hb hK hS (c9_11_at hI) (c9_11_lo hI) 0 rfl (by rw [hgn]; exact vp_in_nI hn9 (by decide)) dX5_guarantee_116 (fun H locs hq => ?_)
          rw [hcn] at hq
          have hI := c9_11_uI (f := n) (v := (fI μ 8 0 1) + 1) hI hq
          have hS := hq.2.2.2
          refine lv_aload_n hx hb dX5_guarantee_117 rfl (lv_at hl 1 rfl) ?_
          refine lv_dup hx hb dX5_guarantee_118 rfl ?_
          refine sx_get (ci := 5) (C := RX5) (T := TX5) (N := 24) (v := .int (fI μ 8 0 1)) hx hb hts inX5 hown hK (c8_at hI) rfl 1 (by decide) (hts _ w_3_37) rfl rfl dX5_guarantee_119 ?_
          refine lv_iconst (v := 1) hx hb dX5_guarantee_122 (by decide) ?_
          refine lv_iadd hx hb dX5_guarantee_123 ?_
          refine sx_put (ci := 5) (v := .int ((fI μ 8 0 1) + 1)) (ty := .int) (C := RX5) (T := TX5) (N := 24) hx hb hts inX5 tyX5 okX5 nmX5 hown hK hS (c8_at hI) (c8_lo hI) rfl 1 (by decide) (hts _ w_3_37) rfl rfl (by decide +kernel) rfl rfl (Nat.le_of_ble_eq_true rfl) dX5_guarantee_124 (fun H locs hq => ?_)
          have hI := c8_uI (f := 1) (v := (fI μ 8 0 1) + 1) hI rfl hq
          have hS := hq.2.2.2
          have hgs : fI (uI (uI (uI μ 8 0 0 0) 9 11 n ((fI μ 8 0 1) + 1)) 8 0 1 ((fI μ 8 0 1) + 1)) 8 0 1 = nI (n + 1) := by rw [fI_uI, up3_at, va_up_self, hgn, nI_1]
          have hcs : (fI (uI (uI (uI μ 8 0 0 0) 9 11 n ((fI μ 8 0 1) + 1)) 8 0 1 ((fI μ 8 0 1) + 1)) 8 0 1).toNatClampNeg = n + 1 := by rw [hgs]; exact nI_clamp (by omega)
          have hvs : vp_in (fI (uI (uI (uI μ 8 0 0 0) 9 11 n ((fI μ 8 0 1) + 1)) 8 0 1 ((fI μ 8 0 1) + 1)) 8 0 1) 21 := by rw [hgs]; exact vp_in_nI (by omega) (by decide)
          refine lv_aload_n hx hb dX5_guarantee_127 rfl (lv_at hl 1 rfl) ?_
          refine sx_get (ci := 5) (C := RX5) (T := TX5) (N := 24) (v := .ref (al 9 0)) hx hb hts inX5 hown hK (c8_at hI) rfl 3 (by decide) (hts _ w_3_39) rfl rfl dX5_guarantee_128 ?_
          refine lv_aload_n hx hb dX5_guarantee_131 rfl (lv_at hl 1 rfl) ?_
          refine sx_get (ci := 5) (C := RX5) (T := TX5) (N := 24) (v := .int (fI (uI (uI (uI μ 8 0 0 0) 9 11 n ((fI μ 8 0 1) + 1)) 8 0 1 ((fI μ 8 0 1) + 1)) 8 0 1)) hx hb hts inX5 hown hK (c8_at hI) rfl 1 (by decide) (hts _ w_3_37) rfl rfl dX5_guarantee_132 ?_
          refine lv_iload_n hx hb dX5_guarantee_135 rfl (lv_at hl 2 rfl) ?_
          refine sx_iast hx hb hK hS (c9_0_at hI) (c9_0_lo hI) 0 rfl hvs dX5_guarantee_136 (fun H locs hq => ?_)
          rw [hcs] at hq
          have hI := c9_0_uI (f := n + 1) (v := h) hI hq
          have hS := hq.2.2.2
          refine lv_aload_n hx hb dX5_guarantee_137 rfl (lv_at hl 1 rfl) ?_
          refine sx_get (ci := 5) (C := RX5) (T := TX5) (N := 24) (v := .ref (al 9 1)) hx hb hts inX5 hown hK (c8_at hI) rfl 4 (by decide) (hts _ w_3_40) rfl rfl dX5_guarantee_138 ?_
          refine lv_aload_n hx hb dX5_guarantee_141 rfl (lv_at hl 1 rfl) ?_
          refine sx_get (ci := 5) (C := RX5) (T := TX5) (N := 24) (v := .int (fI (uI (uI (uI μ 8 0 0 0) 9 11 n ((fI μ 8 0 1) + 1)) 8 0 1 ((fI μ 8 0 1) + 1)) 8 0 1)) hx hb hts inX5 hown hK (c8_at hI) rfl 1 (by decide) (hts _ w_3_37) rfl rfl dX5_guarantee_142 ?_
          refine lv_lload_n hx hb dX5_guarantee_145 rfl (lv_at hl 3 rfl) ?_
          refine sx_last hx hb hK hS (c9_1_at hI) (c9_1_lo hI) 1 rfl hvs dX5_guarantee_146 (fun H locs hq => ?_)
          rw [hcs] at hq
          have hI := c9_1_uL (f := n + 1) (v := a) hI hq
          have hS := hq.2.2.2
          refine lv_aload_n hx hb dX5_guarantee_147 rfl (lv_at hl 1 rfl) ?_
          refine sx_get (ci := 5) (C := RX5) (T := TX5) (N := 24) (v := .ref (al 9 2)) hx hb hts inX5 hown hK (c8_at hI) rfl 5 (by decide) (hts _ w_3_41) rfl rfl dX5_guarantee_148 ?_
          refine lv_aload_n hx hb dX5_guarantee_151 rfl (lv_at hl 1 rfl) ?_
          refine sx_get (ci := 5) (C := RX5) (T := TX5) (N := 24) (v := .int (fI (uI (uI (uI μ 8 0 0 0) 9 11 n ((fI μ 8 0 1) + 1)) 8 0 1 ((fI μ 8 0 1) + 1)) 8 0 1)) hx hb hts inX5 hown hK (c8_at hI) rfl 1 (by decide) (hts _ w_3_37) rfl rfl dX5_guarantee_152 ?_
          refine lv_iload hx hb dX5_guarantee_155 (lv_at hl 4 rfl) ?_
          refine sx_iast hx hb hK hS (c9_2_at hI) (c9_2_lo hI) 0 rfl hvs dX5_guarantee_157 (fun H locs hq => ?_)
          rw [hcs] at hq
          have hI := c9_2_uI (f := n + 1) (v := ua) hI hq
          have hS := hq.2.2.2
          refine lv_aload_n hx hb dX5_guarantee_158 rfl (lv_at hl 1 rfl) ?_
          refine sx_get (ci := 5) (C := RX5) (T := TX5) (N := 24) (v := .ref (al 9 3)) hx hb hts inX5 hown hK (c8_at hI) rfl 6 (by decide) (hts _ w_3_42) rfl rfl dX5_guarantee_159 ?_
          refine lv_aload_n hx hb dX5_guarantee_162 rfl (lv_at hl 1 rfl) ?_
          refine sx_get (ci := 5) (C := RX5) (T := TX5) (N := 24) (v := .int (fI (uI (uI (uI μ 8 0 0 0) 9 11 n ((fI μ 8 0 1) + 1)) 8 0 1 ((fI μ 8 0 1) + 1)) 8 0 1)) hx hb hts inX5 hown hK (c8_at hI) rfl 1 (by decide) (hts _ w_3_37) rfl rfl dX5_guarantee_163 ?_
          refine lv_iload hx hb dX5_guarantee_166 (lv_at hl 5 rfl) ?_
          refine sx_iast hx hb hK hS (c9_3_at hI) (c9_3_lo hI) 0 rfl hvs dX5_guarantee_168 (fun H locs hq => ?_)
          rw [hcs] at hq
          have hI := c9_3_uI (f := n + 1) (v := d) hI hq
          have hS := hq.2.2.2
          refine lv_aload_n hx hb dX5_guarantee_169 rfl (lv_at hl 1 rfl) ?_
          refine sx_get (ci := 5) (C := RX5) (T := TX5) (N := 24) (v := .ref (al 9 4)) hx hb hts inX5 hown hK (c8_at hI) rfl 7 (by decide) (hts _ w_3_43) rfl rfl dX5_guarantee_170 ?_
          refine lv_aload_n hx hb dX5_guarantee_173 rfl (lv_at hl 1 rfl) ?_
          refine sx_get (ci := 5) (C := RX5) (T := TX5) (N := 24) (v := .int (fI (uI (uI (uI μ 8 0 0 0) 9 11 n ((fI μ 8 0 1) + 1)) 8 0 1 ((fI μ 8 0 1) + 1)) 8 0 1)) hx hb hts inX5 hown hK (c8_at hI) rfl 1 (by decide) (hts _ w_3_37) rfl rfl dX5_guarantee_174 ?_
          refine lv_iload hx hb dX5_guarantee_177 (lv_at hl 6 rfl) ?_
          refine sx_zast hx hb hK hS (c9_4_at hI) (c9_4_lo hI) 2 rfl hvs dX5_guarantee_179 (fun H locs hq => ?_)
          rw [(show vp_nar .boolean one = one by rcases hon with rfl | rfl <;> rfl)] at hq
          rw [hcs] at hq
          have hI := c9_4_uI (f := n + 1) (v := one) hI hq
          have hS := hq.2.2.2
          refine lv_aload_n hx hb dX5_guarantee_180 rfl (lv_at hl 1 rfl) ?_
          refine sx_get (ci := 5) (C := RX5) (T := TX5) (N := 24) (v := .ref (al 9 5)) hx hb hts inX5 hown hK (c8_at hI) rfl 8 (by decide) (hts _ w_3_44) rfl rfl dX5_guarantee_181 ?_
          refine lv_aload_n hx hb dX5_guarantee_184 rfl (lv_at hl 1 rfl) ?_
          refine sx_get (ci := 5) (C := RX5) (T := TX5) (N := 24) (v := .int (fI (uI (uI (uI μ 8 0 0 0) 9 11 n ((fI μ 8 0 1) + 1)) 8 0 1 ((fI μ 8 0 1) + 1)) 8 0 1)) hx hb hts inX5 hown hK (c8_at hI) rfl 1 (by decide) (hts _ w_3_37) rfl rfl dX5_guarantee_185 ?_
          refine lv_iload hx hb dX5_guarantee_188 (lv_at hl 7 rfl) ?_
          refine sx_iast hx hb hK hS (c9_5_at hI) (c9_5_lo hI) 0 rfl hvs dX5_guarantee_190 (fun H locs hq => ?_)
          rw [hcs] at hq
          have hI := c9_5_uI (f := n + 1) (v := rt) hI hq
          have hS := hq.2.2.2
          refine lv_aload_n hx hb dX5_guarantee_191 rfl (lv_at hl 1 rfl) ?_
          refine sx_get (ci := 5) (C := RX5) (T := TX5) (N := 24) (v := .ref (al 9 10)) hx hb hts inX5 hown hK (c8_at hI) rfl 13 (by decide) (hts _ w_3_49) rfl rfl dX5_guarantee_192 ?_
          refine lv_aload_n hx hb dX5_guarantee_195 rfl (lv_at hl 1 rfl) ?_
          refine sx_get (ci := 5) (C := RX5) (T := TX5) (N := 24) (v := .int (fI (uI (uI (uI μ 8 0 0 0) 9 11 n ((fI μ 8 0 1) + 1)) 8 0 1 ((fI μ 8 0 1) + 1)) 8 0 1)) hx hb hts inX5 hown hK (c8_at hI) rfl 1 (by decide) (hts _ w_3_37) rfl rfl dX5_guarantee_196 ?_
          refine lv_aload_n hx hb dX5_guarantee_199 rfl (lv_at hl 1 rfl) ?_
          refine sx_get (ci := 5) (C := RX5) (T := TX5) (N := 24) (v := .int (fI μ 8 0 2)) hx hb hts inX5 hown hK (c8_at hI) rfl 2 (by decide) (hts _ w_3_38) rfl rfl dX5_guarantee_200 ?_
          refine sx_iast hx hb hK hS (c9_10_at hI) (c9_10_lo hI) 0 rfl hvs dX5_guarantee_203 (fun H locs hq => ?_)
          rw [hcs] at hq
          have hI := c9_10_uI (f := n + 1) (v := fI μ 8 0 2) hI hq
          have hS := hq.2.2.2
          refine lv_aload_n hx hb dX5_guarantee_204 rfl (lv_at hl 1 rfl) ?_
          refine sx_get (ci := 5) (C := RX5) (T := TX5) (N := 24) (v := .int (fI (uI (uI (uI μ 8 0 0 0) 9 11 n ((fI μ 8 0 1) + 1)) 8 0 1 ((fI μ 8 0 1) + 1)) 8 0 1)) hx hb hts inX5 hown hK (c8_at hI) rfl 1 (by decide) (hts _ w_3_37) rfl rfl dX5_guarantee_205 ?_
          exact W.iret (v := fI (uI (uI (uI μ 8 0 0 0) 9 11 n ((fI μ 8 0 1) + 1)) 8 0 1 ((fI μ 8 0 1) + 1)) 8 0 1) hx hb hr (fun t ht hW => ⟨⟨fI (uI (uI (uI μ 8 0 0 0) 9 11 n ((fI μ 8 0 1) + 1)) 8 0 1 ((fI μ 8 0 1) + 1)) 8 0 1, uI (uI (uI (uI (uI (uL (uI (uI (uI (uI μ 8 0 0 0) 9 11 n ((fI μ 8 0 1) + 1)) 8 0 1 ((fI μ 8 0 1) + 1)) 9 0 (n + 1) h) 9 1 (n + 1) a) 9 2 (n + 1) ua) 9 3 (n + 1) d) 9 4 (n + 1) one) 9 5 (n + 1) rt) 9 10 (n + 1) (fI μ 8 0 2), rfl, (by unfold cGuarM; rw [if_pos c_68, if_pos c_73, if_neg (fun q => c_88 (hgn.trans q)), hgs]; simp only [dGuar, dG0, hgn]), iv_giveM ht hI⟩, hS.F ht⟩) hS.2.2 dX5_guarantee_208
        · refine lv_aload_n hx hb dX5_guarantee_91 rfl (lv_at hl 1 rfl) ?_
          refine lv_iconst (v := 2) hx hb dX5_guarantee_92 (by decide) ?_
          refine va_calli (va_runV (As := [.int 2]) (rest := []) ⟨hx, hb, hml, hown, hts⟩ (m_refuse l D dA sa lo al σ μ 2) (cwV 1 hts (gdV w_3_126 w_3_128 wp_10 w_1_3 w_3_129) rfl rfl rfl (by decide +kernel) ⟨Nat.le_of_ble_eq_true rfl, Nat.le_of_ble_eq_true rfl⟩) ⟨iv_bl, sx_recv hK (c8_at hI) rfl, fun U hU hW => ⟨rfl, iv_use hI hwd hS hU hW⟩⟩ rfl rfl hl.1 rfl (lv_room (Nat.le_of_ble_eq_true rfl)) dX5_guarantee_93 ⟨Nat.le_of_ble_eq_true rfl, Nat.le_of_ble_eq_true rfl⟩) hS (fun q _ h => h) (fun q h => h) (fun r_93 u9 T9 H1 locs ht9 hvm9 e_93 hB9 hz9 hk9 hS => ?_)
          have hI := iv_takeM ht9 hB9
          clear hB9 hk9
          obtain ⟨rfl, rfl⟩ := e_93
          exact W.iret (v := 0) hx hb hr (fun t ht hW => ⟨⟨0, uI μ 8 0 0 2, rfl, (by unfold cGuarM; rw [if_pos c_68, if_pos c_73, if_pos (hgn.symm.trans c_88)]), iv_giveM ht hI⟩, hS.F ht⟩) hS.2.2 dX5_guarantee_96
      · have c_73 := bp_0.mp c_73
        refine lv_aload_n hx hb dX5_guarantee_76 rfl (lv_at hl 1 rfl) ?_
        refine lv_iconst (v := 1) hx hb dX5_guarantee_77 (by decide) ?_
        refine va_calli (va_runV (As := [.int 1]) (rest := []) ⟨hx, hb, hml, hown, hts⟩ (m_refuse l D dA sa lo al σ μ 1) (cwV 1 hts (gdV w_3_126 w_3_128 wp_10 w_1_3 w_3_129) rfl rfl rfl (by decide +kernel) ⟨Nat.le_of_ble_eq_true rfl, Nat.le_of_ble_eq_true rfl⟩) ⟨iv_bl, sx_recv hK (c8_at hI) rfl, fun U hU hW => ⟨rfl, iv_use hI hwd hS hU hW⟩⟩ rfl rfl hl.1 rfl (lv_room (Nat.le_of_ble_eq_true rfl)) dX5_guarantee_78 ⟨Nat.le_of_ble_eq_true rfl, Nat.le_of_ble_eq_true rfl⟩) hS (fun q _ h => h) (fun q h => h) (fun r_78 u9 T9 H1 locs ht9 hvm9 e_78 hB9 hz9 hk9 hS => ?_)
        have hI := iv_takeM ht9 hB9
        clear hB9 hk9
        obtain ⟨rfl, rfl⟩ := e_78
        exact W.iret (v := 0) hx hb hr (fun t ht hW => ⟨⟨0, uI μ 8 0 0 1, rfl, (by unfold cGuarM; rw [if_pos c_68, if_neg c_73]), iv_giveM ht hI⟩, hS.F ht⟩) hS.2.2 dX5_guarantee_81

set_option maxHeartbeats 4000000 in
set_option maxRecDepth 100000 in
theorem m_list (l : Launch) (D : va_G) (dA : Nat → ClassId) (sa : Nat → Nat) (lo : Nat) (al : Nat → Nat → Nat) (σ μ : CS) (h i : Int32) (n r : Nat) (hw : WFm μ n r) (O : List Nat) (hO : Or μ n O) : Met l yX5_list wsX5_list ({ frames := 0, cells := 0, slots := 0, locals := 0 }) (va_Pc [.ref (al 8 0), .int h, .int i] (ivP D dA sa lo al σ μ)) (va_Qi (fun z9 u => (z9, u) = (mLsL μ h O i, uI μ 8 0 0 0)) (ivM D dA lo al σ) (fun q => lo ≤ q)) 0 0 (fun q => lo ≤ q) := by
  refine Met.ofW (cc := cX5_list) (maxL := 5) (ret := some .int) (by decide) rfl ?_
  intro p e s m args below meth c s₁ B hml hv
  obtain ⟨rfl, hI, hwd⟩ := hv
  have hx := B.exec
  have hb := B.bytes
  have hr := B.returns
  have hts : ∀ w ∈ WSall, w.before _ s = true := fun w h => atoms_spec (ws := wsX5_list) B.pre w (List.mem_cons_of_mem _ h)
  have hown : s.vm.findClass RX5 = some m.cls := findClass_of_methodNamed B.named
  have hlocks := B.notSynchronized
  have hK := hwd.1
  have hS : va_S (fun q => lo ≤ q) s.heap s.heap [] := va_S.rf
  have hl := lv_entry ([.ref (al 8 0), .int h, .int i]) (n := 5) (Nat.le_of_ble_eq_true rfl)
  rw [lg_entry_eq]
  generalize (lg_sl ([.ref (al 8 0), .int h, .int i]) ++ List.replicate (5 - (lg_sl ([.ref (al 8 0), .int h, .int i])).length) Slot.unset).toArray = ls at hl ⊢
  have hl : lv_has ls 5 [(0, .ref (al 8 0)), (1, .int h), (2, .int i)] := hl
  obtain ⟨hn20, hr60, hgn, hrn, hor, hpt, hpr, hdn⟩ := id hw
  refine lv_aload_n hx hb dX5_list_0 rfl (lv_at hl 0 rfl) ?_
  refine lv_iconst (v := 0) hx hb dX5_list_1 (by decide) ?_
  refine sx_put (ci := 5) (v := .int 0) (ty := .int) (C := RX5) (T := TX5) (N := 24) hx hb hts inX5 tyX5 okX5 nmX5 hown hK hS (c8_at hI) (c8_lo hI) rfl 0 (by decide) (hts _ w_3_36) rfl rfl (by decide +kernel) rfl rfl (Nat.le_of_ble_eq_true rfl) dX5_list_2 (fun H locs hq => ?_)
  have hI := c8_uI (f := 0) (v := 0) hI rfl hq
  have hS := hq.2.2.2
  refine lv_iload_n hx hb dX5_list_5 rfl (lv_at hl 2 rfl) ?_
  refine lv_istore_n (lv' := [(3, .int i), (0, .ref (al 8 0)), (1, .int h), (2, .int i)]) hx hb dX5_list_6 rfl hl (by decide) rfl (fun ls hl => ?_)
  refine lv_iconst (v := 0) hx hb dX5_list_7 (by decide) ?_
  refine lv_istore (lv' := [(4, .int 0), (3, .int i), (0, .ref (al 8 0)), (1, .int h), (2, .int i)]) hx hb dX5_list_8 hl (by decide) rfl (fun ls hl => ?_)
  refine w_loopP (hd := 10) (stk := []) (X := Nat × List Nat × Int32) (fun xx => match xx with | (k, t, left) => t.length) (fun xx ls => match xx with | (k, t, left) => (O.drop k = t ∧ k ≤ n ∧ mLsL μ h t left = mLsL μ h O i) ∧ lv_has ls 5 [(4, .int (nI k)), (3, .int left), (1, .int h), (0, .ref (al 8 0))]) (fun xx ls hk ih => ?_) (0, O, i) ls ⟨⟨rfl, Nat.zero_le _, rfl⟩, lv_sub hl [0, 1, 3, 2] rfl⟩
  obtain ⟨k, t, left⟩ := xx
  obtain ⟨⟨hdk, hkn, hk⟩, hl⟩ := hk
  cases t with
  | nil =>
    have hl : lv_has ls 5 [(4, .int (nI k)), (3, .int left), (1, .int h), (0, .ref (al 8 0))] := hl
    have hnk := dr_nil hdk
    rw [hO.1] at hnk
    refine lv_iload hx hb dX5_list_10 (lv_at hl 0 rfl) ?_
    refine lv_aload_n hx hb dX5_list_12 rfl (lv_at hl 3 rfl) ?_
    refine sx_get (ci := 5) (C := RX5) (T := TX5) (N := 24) (v := .int (fI μ 8 0 1)) hx hb hts inX5 hown hK (c8_at hI) rfl 1 (by decide) (hts _ w_3_37) rfl rfl dX5_list_13 ?_
    refine lv_icmp_ge (tgt := 77) hx hb dX5_list_16 (by decide) (fun c_16 => ?_) (fun c_16 => ?_)
    · refine lv_iconst (v := (-1)) hx hb dX5_list_77 (by decide) ?_
      exact W.iret (v := (-1)) hx hb hr (fun t ht hW => ⟨⟨(-1), uI μ 8 0 0 0, rfl, (by rw [← hk] <;> rfl), iv_giveM ht hI⟩, hS.F ht⟩) hS.2.2 dX5_list_78
    · exact absurd (lp_lt (n := n) hgn c_16 (by omega)) (by omega)
  | cons g t =>
    have hl : lv_has ls 5 [(4, .int (nI k)), (3, .int left), (1, .int h), (0, .ref (al 8 0))] := hl
    obtain ⟨hgk, hdk1, hlk⟩ := dr_cons hdk
    rw [hO.1] at hlk
    obtain ⟨hgn9, hog⟩ := hO.2 k g hgk
    have hck : (nI k).toNatClampNeg = k := nI_clamp (by omega)
    have hcg : (fI μ 9 11 k).toNatClampNeg = g + 1 := by rw [hog]; exact nI_clamp (by omega)
    have hvg : vp_in (fI μ 9 11 k) 21 := by rw [hog]; exact vp_in_nI (by omega) (by decide)
    refine lv_iload hx hb dX5_list_10 (lv_at hl 0 rfl) ?_
    refine lv_aload_n hx hb dX5_list_12 rfl (lv_at hl 3 rfl) ?_
    refine sx_get (ci := 5) (C := RX5) (T := TX5) (N := 24) (v := .int (fI μ 8 0 1)) hx hb hts inX5 hown hK (c8_at hI) rfl 1 (by decide) (hts _ w_3_37) rfl rfl dX5_list_13 ?_
    refine lv_icmp_ge (tgt := 77) hx hb dX5_list_16 (by decide) (fun c_16 => ?_) (fun c_16 => ?_)
    · exact absurd (lp_end (n := n) hgn c_16 (by omega) (by omega)) (by omega)
    · refine lv_aload_n hx hb dX5_list_19 rfl (lv_at hl 3 rfl) ?_
      refine sx_get (ci := 5) (C := RX5) (T := TX5) (N := 24) (v := .ref (al 9 0)) hx hb hts inX5 hown hK (c8_at hI) rfl 3 (by decide) (hts _ w_3_39) rfl rfl dX5_list_20 ?_
      refine lv_aload_n hx hb dX5_list_23 rfl (lv_at hl 3 rfl) ?_
      refine sx_get (ci := 5) (C := RX5) (T := TX5) (N := 24) (v := .ref (al 9 11)) hx hb hts inX5 hown hK (c8_at hI) rfl 14 (by decide) (hts _ w_3_50) rfl rfl dX5_list_24 ?_
      refine lv_iload hx hb dX5_list_27 (lv_at hl 0 rfl) ?_
      refine sx_iald hx hb hK (c9_11_at hI) 0 rfl (vp_in_nI (show k < 20 by omega) (by decide)) dX5_list_29 ?_
      rw [hck]
      refine W.eq (g2 := F0 m 30 ls (.int (fI μ 9 11 k) :: [.ref (al 9 0)])) rfl ?_
      refine sx_iald hx hb hK (c9_0_at hI) 0 rfl hvg dX5_list_30 ?_
      rw [hcg]
      refine W.eq (g2 := F0 m 31 ls (.int (fI μ 9 0 (g + 1)) :: [])) rfl ?_
      refine lv_iload_n hx hb dX5_list_31 rfl (lv_at hl 2 rfl) ?_
      refine lv_icmp_ne (tgt := 47) hx hb dX5_list_32 (by decide) (fun c_32 => ?_) (fun c_32 => ?_)
      · refine lv_iload_n hx hb dX5_list_47 rfl (lv_at hl 1 rfl) ?_
        refine lv_aload_n hx hb dX5_list_48 rfl (lv_at hl 3 rfl) ?_
        refine sx_get (ci := 5) (C := RX5) (T := TX5) (N := 24) (v := .ref (al 9 0)) hx hb hts inX5 hown hK (c8_at hI) rfl 3 (by decide) (hts _ w_3_39) rfl rfl dX5_list_49 ?_
        refine lv_aload_n hx hb dX5_list_52 rfl (lv_at hl 3 rfl) ?_
        refine sx_get (ci := 5) (C := RX5) (T := TX5) (N := 24) (v := .ref (al 9 11)) hx hb hts inX5 hown hK (c8_at hI) rfl 14 (by decide) (hts _ w_3_50) rfl rfl dX5_list_53 ?_
        refine lv_iload hx hb dX5_list_56 (lv_at hl 0 rfl) ?_
        refine sx_iald hx hb hK (c9_11_at hI) 0 rfl (vp_in_nI (show k < 20 by omega) (by decide)) dX5_list_58 ?_
        rw [hck]
        refine W.eq (g2 := F0 m 59 ls (.int (fI μ 9 11 k) :: [.ref (al 9 0), .int left])) rfl ?_
        refine sx_iald hx hb hK (c9_0_at hI) 0 rfl hvg dX5_list_59 ?_
        rw [hcg]
        refine W.eq (g2 := F0 m 60 ls (.int (fI μ 9 0 (g + 1)) :: [.int left])) rfl ?_
        refine lv_iload_n hx hb dX5_list_60 rfl (lv_at hl 2 rfl) ?_
        refine lv_icmp_ne (tgt := 68) hx hb dX5_list_61 (by decide) (fun c_61 => ?_) (fun c_61 => ?_)
        · refine lv_iconst (v := 0) hx hb dX5_list_68 (by decide) ?_
          refine lv_isub hx hb dX5_list_69 ?_
          refine lv_istore_n (lv' := [(3, .int (left - 0)), (4, .int (nI k)), (1, .int h), (0, .ref (al 8 0))]) hx hb dX5_list_70 rfl hl (by decide) rfl (fun ls hl => ?_)
          refine lv_iinc (v := (nI k) + 1) (lv' := [(4, .int ((nI k) + 1)), (3, .int (left - 0)), (1, .int h), (0, .ref (al 8 0))]) hx hb dX5_list_71 hl (k := 1) rfl rfl (by decide) rfl (fun ls hl => ?_)
          refine lv_goto (tgt := 10) hx hb dX5_list_74 (by decide) ?_
          exact ih (k + 1, t, left - 0) ls (by simp only [List.length_cons]; omega) ⟨⟨hdk1, (by omega), (by rw [mLsL, if_neg c_32] at hk; exact hk)⟩, (by have h9 := lv_sub hl [0, 1, 2, 3] rfl; rw [nI_1] at h9; exact h9)⟩
        · exact absurd c_61 c_32
      · refine lv_iload_n hx hb dX5_list_35 rfl (lv_at hl 1 rfl) ?_
        refine lv_if_ne (tgt := 47) hx hb dX5_list_36 (by decide) (fun c_36 => ?_) (fun c_36 => ?_)
        · refine lv_iload_n hx hb dX5_list_47 rfl (lv_at hl 1 rfl) ?_
          refine lv_aload_n hx hb dX5_list_48 rfl (lv_at hl 3 rfl) ?_
          refine sx_get (ci := 5) (C := RX5) (T := TX5) (N := 24) (v := .ref (al 9 0)) hx hb hts inX5 hown hK (c8_at hI) rfl 3 (by decide) (hts _ w_3_39) rfl rfl dX5_list_49 ?_
          refine lv_aload_n hx hb dX5_list_52 rfl (lv_at hl 3 rfl) ?_
          refine sx_get (ci := 5) (C := RX5) (T := TX5) (N := 24) (v := .ref (al 9 11)) hx hb hts inX5 hown hK (c8_at hI) rfl 14 (by decide) (hts _ w_3_50) rfl rfl dX5_list_53 ?_
          refine lv_iload hx hb dX5_list_56 (lv_at hl 0 rfl) ?_
          refine sx_iald hx hb hK (c9_11_at hI) 0 rfl (vp_in_nI (show k < 20 by omega) (by decide)) dX5_list_58 ?_
          rw [hck]
          refine W.eq (g2 := F0 m 59 ls (.int (fI μ 9 11 k) :: [.ref (al 9 0), .int left])) rfl ?_
          refine sx_iald hx hb hK (c9_0_at hI) 0 rfl hvg dX5_list_59 ?_
          rw [hcg]
          refine W.eq (g2 := F0 m 60 ls (.int (fI μ 9 0 (g + 1)) :: [.int left])) rfl ?_
          refine lv_iload_n hx hb dX5_list_60 rfl (lv_at hl 2 rfl) ?_
          refine lv_icmp_ne (tgt := 68) hx hb dX5_list_61 (by decide) (fun c_61 => ?_) (fun c_61 => ?_)
          · exact absurd c_32 c_61
          · refine lv_iconst (v := 1) hx hb dX5_list_64 (by decide) ?_
            refine lv_goto (tgt := 69) hx hb dX5_list_65 (by decide) ?_
            refine lv_isub hx hb dX5_list_69 ?_
            refine lv_istore_n (lv' := [(3, .int (left - 1)), (4, .int (nI k)), (1, .int h), (0, .ref (al 8 0))]) hx hb dX5_list_70 rfl hl (by decide) rfl (fun ls hl => ?_)
            refine lv_iinc (v := (nI k) + 1) (lv' := [(4, .int ((nI k) + 1)), (3, .int (left - 1)), (1, .int h), (0, .ref (al 8 0))]) hx hb dX5_list_71 hl (k := 1) rfl rfl (by decide) rfl (fun ls hl => ?_)
            refine lv_goto (tgt := 10) hx hb dX5_list_74 (by decide) ?_
            exact ih (k + 1, t, left - 1) ls (by simp only [List.length_cons]; omega) ⟨⟨hdk1, (by omega), (by rw [mLsL, if_pos c_32, if_neg c_36] at hk; exact hk)⟩, (by have h9 := lv_sub hl [0, 1, 2, 3] rfl; rw [nI_1] at h9; exact h9)⟩
        · refine lv_aload_n hx hb dX5_list_39 rfl (lv_at hl 3 rfl) ?_
          refine sx_get (ci := 5) (C := RX5) (T := TX5) (N := 24) (v := .ref (al 9 11)) hx hb hts inX5 hown hK (c8_at hI) rfl 14 (by decide) (hts _ w_3_50) rfl rfl dX5_list_40 ?_
          refine lv_iload hx hb dX5_list_43 (lv_at hl 0 rfl) ?_
          refine sx_iald hx hb hK (c9_11_at hI) 0 rfl (vp_in_nI (show k < 20 by omega) (by decide)) dX5_list_45 ?_
          rw [hck]
          refine W.eq (g2 := F0 m 46 ls (.int (fI μ 9 11 k) :: [])) rfl ?_
          exact W.iret (v := fI μ 9 11 k) hx hb hr (fun t ht hW => ⟨⟨fI μ 9 11 k, uI μ 8 0 0 0, rfl, (by rw [mLsL, if_pos c_32, if_pos c_36] at hk; rw [← hk, ← hog]), iv_giveM ht hI⟩, hS.F ht⟩) hS.2.2 dX5_list_46

set_option maxHeartbeats 4000000 in
set_option maxRecDepth 100000 in
theorem m_free (l : Launch) (D : va_G) (dA : Nat → ClassId) (sa : Nat → Nat) (lo : Nat) (al : Nat → Nat → Nat) (σ μ : CS) (x : Int32) (n r : Nat) (hw : WFm μ n r) : Met l yX5_free wsX5_free ({ frames := 5, cells := 0, slots := 0, locals := 150 }) (va_Pc [.ref (al 8 0), .int x] (ivP D dA sa lo al σ μ)) (va_Ql (fun z9 u => (z9, u) = (if pHold x then mTog (uI μ 8 0 0 0) n r x else -1, uI μ 8 0 0 0)) (ivM D dA lo al σ) (fun q => lo ≤ q)) 0 0 (fun q => lo ≤ q) := by
  refine Met.ofW (cc := cX5_free) (maxL := 2) (ret := some .long) (by decide) rfl ?_
  intro p e s m args below meth c s₁ B hml hv
  obtain ⟨rfl, hI, hwd⟩ := hv
  have hx := B.exec
  have hb := B.bytes
  have hr := B.returns
  have hts : ∀ w ∈ WSall, w.before _ s = true := fun w h => atoms_spec (ws := wsX5_free) B.pre w (List.mem_cons_of_mem _ h)
  have hown : s.vm.findClass RX5 = some m.cls := findClass_of_methodNamed B.named
  have hlocks := B.notSynchronized
  have hK := hwd.1
  have hS : va_S (fun q => lo ≤ q) s.heap s.heap [] := va_S.rf
  have hl := lv_entry ([.ref (al 8 0), .int x]) (n := 2) (Nat.le_of_ble_eq_true rfl)
  rw [lg_entry_eq]
  generalize (lg_sl ([.ref (al 8 0), .int x]) ++ List.replicate (2 - (lg_sl ([.ref (al 8 0), .int x])).length) Slot.unset).toArray = ls at hl ⊢
  have hl : lv_has ls 2 [(0, .ref (al 8 0)), (1, .int x)] := hl
  refine lv_aload_n hx hb dX5_free_0 rfl (lv_at hl 0 rfl) ?_
  refine lv_iconst (v := 0) hx hb dX5_free_1 (by decide) ?_
  refine sx_put (ci := 5) (v := .int 0) (ty := .int) (C := RX5) (T := TX5) (N := 24) hx hb hts inX5 tyX5 okX5 nmX5 hown hK hS (c8_at hI) (c8_lo hI) rfl 0 (by decide) (hts _ w_3_36) rfl rfl (by decide +kernel) rfl rfl (Nat.le_of_ble_eq_true rfl) dX5_free_2 (fun H locs hq => ?_)
  have hI := c8_uI (f := 0) (v := 0) hI rfl hq
  have hS := hq.2.2.2
  refine lv_iload_n hx hb dX5_free_5 rfl (lv_at hl 1 rfl) ?_
  refine vp_callSi (W.runS (As := [.int x]) (rest := []) ⟨hx, hb, hml, hown, hts⟩ (m_isHolder l D dA sa lo al σ (uI μ 8 0 0 0) x) (cwS 1 hts (gdS w_3_123 w_3_124 w_1_3 w_3_125) rfl rfl rfl (by decide +kernel) ⟨Nat.le_of_ble_eq_true rfl, Nat.le_of_ble_eq_true rfl⟩) ⟨iv_bl, fun U hU hW => ⟨rfl, iv_use hI hwd hS hU hW⟩⟩ rfl rfl hl.1 rfl (lv_room (Nat.le_of_ble_eq_true rfl)) dX5_free_6 ⟨Nat.le_of_ble_eq_true rfl, Nat.le_of_ble_eq_true rfl⟩) (fun r_6 e_6 => ?_)
  subst e_6
  refine lv_if_eq (tgt := 20) hx hb dX5_free_9 (by decide) (fun c_9 => ?_) (fun c_9 => ?_)
  · have c_9 := bp_0.mp c_9
    refine lv_ldc2 (v := (-1)) hx hb hown (hts _ w_3_171) dX5_free_20 ?_
    exact W.lret (v := (-1)) hx hb hr (fun t ht hW => ⟨⟨(-1), uI μ 8 0 0 0, rfl, (by rw [if_neg c_9]), iv_giveM ht hI⟩, hS.F ht⟩) hS.2.2 dX5_free_23
  · have c_9 := bp_n0.mp c_9
    refine lv_aload_n hx hb dX5_free_12 rfl (lv_at hl 0 rfl) ?_
    refine lv_iload_n hx hb dX5_free_13 rfl (lv_at hl 1 rfl) ?_
    refine vp_callSl (W.runV (As := [.int x]) (rest := []) ⟨hx, hb, hml, hown, hts⟩ (m_together l D dA sa lo al σ (uI μ 8 0 0 0) x n r (WFm_th hw)) (cwV 1 hts (gdV w_3_146 w_3_148 wp_12 w_1_3 w_3_149) rfl rfl rfl (by decide +kernel) ⟨Nat.le_of_ble_eq_true rfl, Nat.le_of_ble_eq_true rfl⟩) ⟨iv_bl, sx_recv hK (c8_at hI) rfl, fun U hU hW => ⟨rfl, iv_use hI hwd hS hU hW⟩⟩ rfl rfl hl.1 rfl (lv_room (Nat.le_of_ble_eq_true rfl)) dX5_free_14 ⟨Nat.le_of_ble_eq_true rfl, Nat.le_of_ble_eq_true rfl⟩) (fun r_14 e_14 => ?_)
    subst e_14
    refine lv_goto (tgt := 23) hx hb dX5_free_17 (by decide) ?_
    exact W.lret (v := mTog (uI μ 8 0 0 0) n r x) hx hb hr (fun t ht hW => ⟨⟨mTog (uI μ 8 0 0 0) n r x, uI μ 8 0 0 0, rfl, (by rw [if_pos c_9]), iv_giveM ht hI⟩, hS.F ht⟩) hS.2.2 dX5_free_23

set_option maxHeartbeats 4000000 in
set_option maxRecDepth 100000 in
theorem m_lays (l : Launch) (D : va_G) (dA : Nat → ClassId) (sa : Nat → Nat) (lo : Nat) (al : Nat → Nat → Nat) (σ μ : CS) (h : Int32) (x : Int64) (n r : Nat) (hw : WFm μ n r) (hr9 : r < 60) (O : List Nat) (hO : Or μ n O) : Met l yX5_lays wsX5_lays ({ frames := 4, cells := 0, slots := 0, locals := 130 }) (va_Pc [.ref (al 8 0), .int h, .long x] (ivP D dA sa lo al σ μ)) (va_Qi (fun z9 u => (z9, u) = (b2i (mLayL r h O μ x 0).2, (mLayL r h O μ x 0).1)) (ivM D dA lo al σ) (fun q => lo ≤ q)) 0 0 (fun q => lo ≤ q) := by
  refine Met.ofW (cc := cX5_lays) (maxL := 12) (ret := some .boolean) (by decide) rfl ?_
  intro p e s m args below meth c s₁ B hml hv
  obtain ⟨rfl, hI, hwd⟩ := hv
  have hx := B.exec
  have hb := B.bytes
  have hr := B.returns
  have hts : ∀ w ∈ WSall, w.before _ s = true := fun w h => atoms_spec (ws := wsX5_lays) B.pre w (List.mem_cons_of_mem _ h)
  have hown : s.vm.findClass RX5 = some m.cls := findClass_of_methodNamed B.named
  have hlocks := B.notSynchronized
  have hK := hwd.1
  have hS : va_S (fun q => lo ≤ q) s.heap s.heap [] := va_S.rf
  have hl := lv_entry ([.ref (al 8 0), .int h, .long x]) (n := 12) (Nat.le_of_ble_eq_true rfl)
  rw [lg_entry_eq]
  generalize (lg_sl ([.ref (al 8 0), .int h, .long x]) ++ List.replicate (12 - (lg_sl ([.ref (al 8 0), .int h, .long x])).length) Slot.unset).toArray = ls at hl ⊢
  have hl : lv_has ls 12 [(0, .ref (al 8 0)), (1, .int h), (2, .long x)] := hl
  obtain ⟨hn20, hr60, hgn, hrn, hor, hpt, hpr, hdn⟩ := id hw
  have hcr : (nI (r + 1)).toNatClampNeg = r + 1 := nI_clamp (by omega)
  refine lv_aload_n hx hb dX5_lays_0 rfl (lv_at hl 0 rfl) ?_
  refine sx_get (ci := 5) (C := RX5) (T := TX5) (N := 24) (v := .int (fI μ 8 0 15)) hx hb hts inX5 hown hK (c8_at hI) rfl 15 (by decide) (hts _ w_3_51) rfl rfl dX5_lays_1 ?_
  refine lv_iconst (v := 1) hx hb dX5_lays_4 (by decide) ?_
  refine lv_iadd hx hb dX5_lays_5 ?_
  refine W.eq (g2 := F0 m 6 ls (.int (nI (r + 1)) :: [])) (by rw [hrn, nI_1]) ?_
  refine lv_istore (lv' := [(4, .int (nI (r + 1))), (0, .ref (al 8 0)), (1, .int h), (2, .long x)]) hx hb dX5_lays_6 hl (by decide) rfl (fun ls hl => ?_)
  refine lv_lload_n hx hb dX5_lays_8 rfl (lv_at hl 3 rfl) ?_
  refine lv_lstore (lv' := [(5, .long x), (4, .int (nI (r + 1))), (0, .ref (al 8 0)), (1, .int h), (2, .long x)]) hx hb dX5_lays_9 hl (by decide) rfl (fun ls hl => ?_)
  refine lv_iconst (v := 0) hx hb dX5_lays_11 (by decide) ?_
  refine lv_istore (lv' := [(7, .int 0), (5, .long x), (4, .int (nI (r + 1))), (0, .ref (al 8 0)), (1, .int h), (2, .long x)]) hx hb dX5_lays_12 hl (by decide) rfl (fun ls hl => ?_)
  refine lv_iconst (v := 0) hx hb dX5_lays_14 (by decide) ?_
  refine lv_istore (lv' := [(8, .int 0), (7, .int 0), (5, .long x), (4, .int (nI (r + 1))), (0, .ref (al 8 0)), (1, .int h), (2, .long x)]) hx hb dX5_lays_15 hl (by decide) rfl (fun ls hl => ?_)
  refine w_loop (hd := 17) (stk := []) (X := Nat × List Nat × Int64 × Nat × CS) (fun xx => match xx with | (k, t, w, q, τ) => t.length) (fun xx ls H locs => match xx with | (k, t, w, q, τ) => Inv D dA lo al σ τ H ∧ va_S (fun q => lo ≤ q) s.heap H locs ∧ (O.drop k = t ∧ k ≤ n ∧ q ≤ 4 ∧ WFm τ n r ∧ fI τ 9 11 = fI μ 9 11 ∧ mLayL r h t τ w q = mLayL r h O μ x 0) ∧ lv_has ls 12 [(8, .int (nI k)), (7, .int (nI q)), (5, .long w), (4, .int (nI (r + 1))), (1, .int h), (0, .ref (al 8 0))]) (fun xx ls H locs hk ih => ?_) (0, O, x, 0, μ) ls _ _ ⟨hI, hS, ⟨rfl, Nat.zero_le _, Nat.zero_le _, hw, rfl, rfl⟩, lv_sub hl [0, 1, 2, 3, 5, 4] rfl⟩
  obtain ⟨k, t, w, q, τ⟩ := xx
  obtain ⟨hI, hS, ⟨hdk, hkn, hq4, hwt, hto, hk⟩, hl⟩ := hk
  have hgt : fI τ 8 0 1 = nI n := hwt.2.2.1
  cases t with
  | nil =>
    have hl : lv_has ls 12 [(8, .int (nI k)), (7, .int (nI q)), (5, .long w), (4, .int (nI (r + 1))), (1, .int h), (0, .ref (al 8 0))] := hl
    have hnk := dr_nil hdk
    rw [hO.1] at hnk
    refine lv_iload hx hb dX5_lays_17 (lv_at hl 0 rfl) ?_
    refine lv_aload_n hx hb dX5_lays_19 rfl (lv_at hl 5 rfl) ?_
    refine sx_get (ci := 5) (C := RX5) (T := TX5) (N := 24) (v := .int (fI τ 8 0 1)) hx hb hts inX5 hown hK (c8_at hI) rfl 1 (by decide) (hts _ w_3_37) rfl rfl dX5_lays_20 ?_
    refine lv_icmp_ge (tgt := 148) hx hb dX5_lays_23 (by decide) (fun c_23 => ?_) (fun c_23 => ?_)
    · refine lv_aload_n hx hb dX5_lays_148 rfl (lv_at hl 5 rfl) ?_
      refine sx_get (ci := 5) (C := RX5) (T := TX5) (N := 24) (v := .ref (al 9 15)) hx hb hts inX5 hown hK (c8_at hI) rfl 19 (by decide) (hts _ w_3_55) rfl rfl dX5_lays_149 ?_
      refine lv_iload hx hb dX5_lays_152 (lv_at hl 3 rfl) ?_
      refine jn_i (tgt := 167) (rest := [.int (nI (r + 1)), .ref (al 9 15)]) (ls := ls) (P := fun b9 => b9 = if w = 0 then nI q else 0) (fun J_154 => ?_) (fun b9 hb9 => ?_)
      · refine lv_lload hx hb dX5_lays_154 (lv_at hl 2 rfl) ?_
        refine lv_lconst (v := 0) hx hb dX5_lays_156 (by decide) ?_
        refine W.lcmp hx hb dX5_lays_157 ?_
        refine lv_if_ne (tgt := 166) hx hb dX5_lays_158 (by decide) (fun c_158 => ?_) (fun c_158 => ?_)
        · have c_158 : ¬ w = 0 := fun h => c_158 ((lg_cmp_eq _ _).mpr h)
          refine lv_iconst (v := 0) hx hb dX5_lays_166 (by decide) ?_
          exact J_154 _ (by rw [if_neg c_158])
        · have c_158 : w = 0 := (lg_cmp_eq _ _).mp c_158
          refine lv_iload hx hb dX5_lays_161 (lv_at hl 1 rfl) ?_
          refine lv_goto (tgt := 167) hx hb dX5_lays_163 (by decide) ?_
          exact J_154 _ (by rw [if_pos c_158])
      · subst hb9
        refine sx_iast hx hb hK hS (c9_15_at hI) (c9_15_lo hI) 0 rfl (vp_in_nI (show r + 1 < 61 by omega) (by decide)) dX5_lays_167 (fun H locs hq => ?_)
        rw [hcr] at hq
        have hI := c9_15_uI (f := r + 1) (v := if w = 0 then nI q else 0) hI hq
        have hS := hq.2.2.2
        refine lv_lload hx hb dX5_lays_168 (lv_at hl 2 rfl) ?_
        refine lv_lconst (v := 0) hx hb dX5_lays_170 (by decide) ?_
        refine W.lcmp hx hb dX5_lays_171 ?_
        refine lv_if_ne (tgt := 179) hx hb dX5_lays_172 (by decide) (fun c_172 => ?_) (fun c_172 => ?_)
        · have c_172 : ¬ w = 0 := fun h => c_172 ((lg_cmp_eq _ _).mpr h)
          refine lv_iconst (v := 0) hx hb dX5_lays_179 (by decide) ?_
          exact W.zret (v := 0) hx hb hr rfl (fun t ht hW => ⟨⟨0, uI τ 9 15 (r + 1) (if w = 0 then nI q else 0), rfl, (by rw [mLayL] at hk; rw [← hk]; simp [b2i, c_172, mLayE]), iv_giveM ht hI⟩, hS.F ht⟩) hS.2.2 dX5_lays_180
        · have c_172 : w = 0 := (lg_cmp_eq _ _).mp c_172
          refine lv_iconst (v := 1) hx hb dX5_lays_175 (by decide) ?_
          refine lv_goto (tgt := 180) hx hb dX5_lays_176 (by decide) ?_
          exact W.zret (v := 1) hx hb hr rfl (fun t ht hW => ⟨⟨1, uI τ 9 15 (r + 1) (if w = 0 then nI q else 0), rfl, (by rw [mLayL] at hk; rw [← hk]; simp [b2i, c_172, mLayE]), iv_giveM ht hI⟩, hS.F ht⟩) hS.2.2 dX5_lays_180
    · exact absurd (lp_lt (n := n) hgt c_23 (by omega)) (by omega)
  | cons g t =>
    have hl : lv_has ls 12 [(8, .int (nI k)), (7, .int (nI q)), (5, .long w), (4, .int (nI (r + 1))), (1, .int h), (0, .ref (al 8 0))] := hl
    obtain ⟨hgk, hdk1, hlk⟩ := dr_cons hdk
    rw [hO.1] at hlk
    obtain ⟨hgn9, hog⟩ := hO.2 k g hgk
    rw [← hto] at hog
    have hck : (nI k).toNatClampNeg = k := nI_clamp (by omega)
    have hcg : (nI (g + 1)).toNatClampNeg = g + 1 := nI_clamp (by omega)
    have hcq : (nI (4 * (r + 1) + q)).toNatClampNeg = 4 * (r + 1) + q := nI_clamp (by omega)
    refine lv_iload hx hb dX5_lays_17 (lv_at hl 0 rfl) ?_
    refine lv_aload_n hx hb dX5_lays_19 rfl (lv_at hl 5 rfl) ?_
    refine sx_get (ci := 5) (C := RX5) (T := TX5) (N := 24) (v := .int (fI τ 8 0 1)) hx hb hts inX5 hown hK (c8_at hI) rfl 1 (by decide) (hts _ w_3_37) rfl rfl dX5_lays_20 ?_
    refine lv_icmp_ge (tgt := 148) hx hb dX5_lays_23 (by decide) (fun c_23 => ?_) (fun c_23 => ?_)
    · exact absurd (lp_end (n := n) hgt c_23 (by omega) (by omega)) (by omega)
    · refine lv_lload hx hb dX5_lays_26 (lv_at hl 2 rfl) ?_
      refine lv_lconst (v := 0) hx hb dX5_lays_28 (by decide) ?_
      refine W.lcmp hx hb dX5_lays_29 ?_
      refine lv_if_le (tgt := 148) hx hb dX5_lays_30 (by decide) (fun c_30 => ?_) (fun c_30 => ?_)
      · have c_30 : w ≤ 0 := (lg_cmp_le _ _).mp c_30
        refine lv_aload_n hx hb dX5_lays_148 rfl (lv_at hl 5 rfl) ?_
        refine sx_get (ci := 5) (C := RX5) (T := TX5) (N := 24) (v := .ref (al 9 15)) hx hb hts inX5 hown hK (c8_at hI) rfl 19 (by decide) (hts _ w_3_55) rfl rfl dX5_lays_149 ?_
        refine lv_iload hx hb dX5_lays_152 (lv_at hl 3 rfl) ?_
        refine jn_i (tgt := 167) (rest := [.int (nI (r + 1)), .ref (al 9 15)]) (ls := ls) (P := fun b9 => b9 = if w = 0 then nI q else 0) (fun J_154 => ?_) (fun b9 hb9 => ?_)
        · refine lv_lload hx hb dX5_lays_154 (lv_at hl 2 rfl) ?_
          refine lv_lconst (v := 0) hx hb dX5_lays_156 (by decide) ?_
          refine W.lcmp hx hb dX5_lays_157 ?_
          refine lv_if_ne (tgt := 166) hx hb dX5_lays_158 (by decide) (fun c_158 => ?_) (fun c_158 => ?_)
          · have c_158 : ¬ w = 0 := fun h => c_158 ((lg_cmp_eq _ _).mpr h)
            refine lv_iconst (v := 0) hx hb dX5_lays_166 (by decide) ?_
            exact J_154 _ (by rw [if_neg c_158])
          · have c_158 : w = 0 := (lg_cmp_eq _ _).mp c_158
            refine lv_iload hx hb dX5_lays_161 (lv_at hl 1 rfl) ?_
            refine lv_goto (tgt := 167) hx hb dX5_lays_163 (by decide) ?_
            exact J_154 _ (by rw [if_pos c_158])
        · subst hb9
          refine sx_iast hx hb hK hS (c9_15_at hI) (c9_15_lo hI) 0 rfl (vp_in_nI (show r + 1 < 61 by omega) (by decide)) dX5_lays_167 (fun H locs hq => ?_)
          rw [hcr] at hq
          have hI := c9_15_uI (f := r + 1) (v := if w = 0 then nI q else 0) hI hq
          have hS := hq.2.2.2
          refine lv_lload hx hb dX5_lays_168 (lv_at hl 2 rfl) ?_
          refine lv_lconst (v := 0) hx hb dX5_lays_170 (by decide) ?_
          refine W.lcmp hx hb dX5_lays_171 ?_
          refine lv_if_ne (tgt := 179) hx hb dX5_lays_172 (by decide) (fun c_172 => ?_) (fun c_172 => ?_)
          · have c_172 : ¬ w = 0 := fun h => c_172 ((lg_cmp_eq _ _).mpr h)
            refine lv_iconst (v := 0) hx hb dX5_lays_179 (by decide) ?_
            exact W.zret (v := 0) hx hb hr rfl (fun t ht hW => ⟨⟨0, uI τ 9 15 (r + 1) (if w = 0 then nI q else 0), rfl, (by rw [mLayL, if_pos c_30] at hk; rw [← hk]; simp [b2i, c_172, mLayE]), iv_giveM ht hI⟩, hS.F ht⟩) hS.2.2 dX5_lays_180
          · have c_172 : w = 0 := (lg_cmp_eq _ _).mp c_172
            refine lv_iconst (v := 1) hx hb dX5_lays_175 (by decide) ?_
            refine lv_goto (tgt := 180) hx hb dX5_lays_176 (by decide) ?_
            exact W.zret (v := 1) hx hb hr rfl (fun t ht hW => ⟨⟨1, uI τ 9 15 (r + 1) (if w = 0 then nI q else 0), rfl, (by rw [mLayL, if_pos c_30] at hk; rw [← hk]; simp [b2i, c_172, mLayE]), iv_giveM ht hI⟩, hS.F ht⟩) hS.2.2 dX5_lays_180
      · have c_30 : ¬ w ≤ 0 := fun h => c_30 ((lg_cmp_le _ _).mpr h)
        refine lv_aload_n hx hb dX5_lays_33 rfl (lv_at hl 5 rfl) ?_
        refine sx_get (ci := 5) (C := RX5) (T := TX5) (N := 24) (v := .ref (al 9 11)) hx hb hts inX5 hown hK (c8_at hI) rfl 14 (by decide) (hts _ w_3_50) rfl rfl dX5_lays_34 ?_
        refine lv_iload hx hb dX5_lays_37 (lv_at hl 0 rfl) ?_
        refine sx_iald hx hb hK (c9_11_at hI) 0 rfl (vp_in_nI (show k < 20 by omega) (by decide)) dX5_lays_39 ?_
        rw [hck]
        refine W.eq (g2 := F0 m 40 ls (.int (nI (g + 1)) :: [])) (by rw [hog]) ?_
        refine lv_istore (lv' := [(9, .int (nI (g + 1))), (8, .int (nI k)), (7, .int (nI q)), (5, .long w), (4, .int (nI (r + 1))), (1, .int h), (0, .ref (al 8 0))]) hx hb dX5_lays_40 hl (by decide) rfl (fun ls hl => ?_)
        refine jn_l (tgt := 63) (rest := []) (ls := ls) (P := fun b9 => b9 = mX1 τ r h g) (fun J_42 => ?_) (fun b9 hb9 => ?_)
        · refine lv_aload_n hx hb dX5_lays_42 rfl (lv_at hl 6 rfl) ?_
          refine sx_get (ci := 5) (C := RX5) (T := TX5) (N := 24) (v := .ref (al 9 0)) hx hb hts inX5 hown hK (c8_at hI) rfl 3 (by decide) (hts _ w_3_39) rfl rfl dX5_lays_43 ?_
          refine lv_iload hx hb dX5_lays_46 (lv_at hl 0 rfl) ?_
          refine sx_iald hx hb hK (c9_0_at hI) 0 rfl (vp_in_nI (show g + 1 < 21 by omega) (by decide)) dX5_lays_48 ?_
          rw [hcg]
          refine lv_iload_n hx hb dX5_lays_49 rfl (lv_at hl 5 rfl) ?_
          refine lv_icmp_ne (tgt := 62) hx hb dX5_lays_50 (by decide) (fun c_50 => ?_) (fun c_50 => ?_)
          · refine lv_lconst (v := 0) hx hb dX5_lays_62 (by decide) ?_
            exact J_42 _ (by unfold mX1; rw [if_neg c_50])
          · refine lv_aload_n hx hb dX5_lays_53 rfl (lv_at hl 6 rfl) ?_
            refine lv_iload hx hb dX5_lays_54 (lv_at hl 0 rfl) ?_
            refine vp_callSl (W.runV (As := [.int (nI (g + 1))]) (rest := []) ⟨hx, hb, hml, hown, hts⟩ (m_may l D dA sa lo al σ τ (g + 1) n r hwt (by omega) (by omega)) (cwV 1 hts (gdV w_3_150 w_3_152 wp_13 w_1_3 w_3_153) rfl rfl rfl (by decide +kernel) ⟨Nat.le_of_ble_eq_true rfl, Nat.le_of_ble_eq_true rfl⟩) ⟨iv_bl, sx_recv hK (c8_at hI) rfl, fun U hU hW => ⟨rfl, iv_use hI hwd hS hU hW⟩⟩ rfl rfl hl.1 rfl (lv_room (Nat.le_of_ble_eq_true rfl)) dX5_lays_56 ⟨Nat.le_of_ble_eq_true rfl, Nat.le_of_ble_eq_true rfl⟩) (fun r_56 e_56 => ?_)
            subst e_56
            refine lv_goto (tgt := 63) hx hb dX5_lays_59 (by decide) ?_
            exact J_42 _ (by unfold mX1; rw [if_pos c_50])
        · subst hb9
          refine lv_lstore (lv' := [(10, .long (mX1 τ r h g)), (9, .int (nI (g + 1))), (8, .int (nI k)), (7, .int (nI q)), (5, .long w), (4, .int (nI (r + 1))), (1, .int h), (0, .ref (al 8 0))]) hx hb dX5_lays_63 hl (by decide) rfl (fun ls hl => ?_)
          refine jn_l (tgt := 80) (rest := []) (ls := ls) (P := fun b9 => b9 = mX τ r h g w) (fun J_65 => ?_) (fun b9 hb9 => ?_)
          · refine lv_lload hx hb dX5_lays_65 (lv_at hl 0 rfl) ?_
            refine lv_lload hx hb dX5_lays_67 (lv_at hl 4 rfl) ?_
            refine W.lcmp hx hb dX5_lays_69 ?_
            refine lv_if_ge (tgt := 78) hx hb dX5_lays_70 (by decide) (fun c_70 => ?_) (fun c_70 => ?_)
            · have c_70 : w ≤ (mX1 τ r h g) := (lg_cmp_ge _ _).mp c_70
              refine lv_lload hx hb dX5_lays_78 (lv_at hl 4 rfl) ?_
              exact J_65 _ (by unfold mX; rw [if_pos c_70])
            · have c_70 : ¬ w ≤ (mX1 τ r h g) := fun h => c_70 ((lg_cmp_ge _ _).mpr h)
              refine lv_lload hx hb dX5_lays_73 (lv_at hl 0 rfl) ?_
              refine lv_goto (tgt := 80) hx hb dX5_lays_75 (by decide) ?_
              exact J_65 _ (by unfold mX; rw [if_neg c_70])
          · subst hb9
            refine lv_lstore (lv' := [(10, .long (mX τ r h g w)), (9, .int (nI (g + 1))), (8, .int (nI k)), (7, .int (nI q)), (5, .long w), (4, .int (nI (r + 1))), (1, .int h), (0, .ref (al 8 0))]) hx hb dX5_lays_80 hl (by decide) rfl (fun ls hl => ?_)
            refine lv_lload hx hb dX5_lays_82 (lv_at hl 0 rfl) ?_
            refine lv_lconst (v := 0) hx hb dX5_lays_84 (by decide) ?_
            refine W.lcmp hx hb dX5_lays_85 ?_
            refine lv_if_le (tgt := 97) hx hb dX5_lays_86 (by decide) (fun c_86 => ?_) (fun c_86 => ?_)
            · have c_86 : (mX τ r h g w) ≤ 0 := (lg_cmp_le _ _).mp c_86
              refine lv_lload hx hb dX5_lays_97 (lv_at hl 0 rfl) ?_
              refine lv_lconst (v := 0) hx hb dX5_lays_99 (by decide) ?_
              refine W.lcmp hx hb dX5_lays_100 ?_
              refine lv_if_le (tgt := 142) hx hb dX5_lays_101 (by decide) (fun c_101 => ?_) (fun c_101 => ?_)
              · have c_101 : (mX τ r h g w) ≤ 0 := (lg_cmp_le _ _).mp c_101
                refine lv_iinc (v := (nI k) + 1) (lv' := [(8, .int ((nI k) + 1)), (10, .long (mX τ r h g w)), (9, .int (nI (g + 1))), (7, .int (nI q)), (5, .long w), (4, .int (nI (r + 1))), (1, .int h), (0, .ref (al 8 0))]) hx hb dX5_lays_142 hl (k := 2) rfl rfl (by decide) rfl (fun ls hl => ?_)
                refine lv_goto (tgt := 17) hx hb dX5_lays_145 (by decide) ?_
                exact ih (k + 1, t, w, q, τ) ls _ _ (by simp only [List.length_cons]; omega) ⟨hI, hS, ⟨hdk1, (by omega), hq4, hwt, hto, (by rw [mLayL, if_neg c_30, if_pos c_86] at hk; exact hk)⟩, (by have h9 := lv_sub hl [0, 3, 4, 5, 6, 7] rfl; rw [nI_1] at h9; exact h9)⟩
              · have c_101 : ¬ (mX τ r h g w) ≤ 0 := fun h => c_101 ((lg_cmp_le _ _).mpr h)
                exact absurd c_86 c_101
            · have c_86 : ¬ (mX τ r h g w) ≤ 0 := fun h => c_86 ((lg_cmp_le _ _).mpr h)
              refine lv_iload hx hb dX5_lays_89 (lv_at hl 3 rfl) ?_
              refine lv_iconst (v := 4) hx hb dX5_lays_91 (by decide) ?_
              refine lv_icmp_ne (tgt := 97) hx hb dX5_lays_92 (by decide) (fun c_92 => ?_) (fun c_92 => ?_)
              · refine lv_lload hx hb dX5_lays_97 (lv_at hl 0 rfl) ?_
                refine lv_lconst (v := 0) hx hb dX5_lays_99 (by decide) ?_
                refine W.lcmp hx hb dX5_lays_100 ?_
                refine lv_if_le (tgt := 142) hx hb dX5_lays_101 (by decide) (fun c_101 => ?_) (fun c_101 => ?_)
                · have c_101 : (mX τ r h g w) ≤ 0 := (lg_cmp_le _ _).mp c_101
                  exact absurd c_101 c_86
                · have c_101 : ¬ (mX τ r h g w) ≤ 0 := fun h => c_101 ((lg_cmp_le _ _).mpr h)
                  have hq9 : q < 4 := by
                    have : q ≠ 4 := fun e => c_92 (by rw [e]; rfl)
                    omega
                  refine lv_aload_n hx hb dX5_lays_104 rfl (lv_at hl 7 rfl) ?_
                  refine sx_get (ci := 5) (C := RX5) (T := TX5) (N := 24) (v := .ref (al 9 16)) hx hb hts inX5 hown hK (c8_at hI) rfl 20 (by decide) (hts _ w_3_56) rfl rfl dX5_lays_105 ?_
                  refine lv_iconst (v := 4) hx hb dX5_lays_108 (by decide) ?_
                  refine lv_iload hx hb dX5_lays_109 (lv_at hl 5 rfl) ?_
                  refine lv_imul hx hb dX5_lays_111 ?_
                  refine W.eq (g2 := F0 m 112 ls (.int (nI (4 * (r + 1))) :: [.ref (al 9 16)])) (by rw [i4mul]) ?_
                  refine lv_iload hx hb dX5_lays_112 (lv_at hl 3 rfl) ?_
                  refine lv_iadd hx hb dX5_lays_114 ?_
                  refine W.eq (g2 := F0 m 115 ls (.int (nI (4 * (r + 1) + q)) :: [.ref (al 9 16)])) (by rw [nI_add]) ?_
                  refine lv_iload hx hb dX5_lays_115 (lv_at hl 1 rfl) ?_
                  refine sx_iast hx hb hK hS (c9_16_at hI) (c9_16_lo hI) 0 rfl (vp_in_nI (show 4 * (r + 1) + q < 244 by omega) (by decide)) dX5_lays_117 (fun H locs hq => ?_)
                  rw [hcq] at hq
                  have hI := c9_16_uI (f := 4 * (r + 1) + q) (v := nI (g + 1)) hI hq
                  have hS := hq.2.2.2
                  refine lv_aload_n hx hb dX5_lays_118 rfl (lv_at hl 7 rfl) ?_
                  refine sx_get (ci := 5) (C := RX5) (T := TX5) (N := 24) (v := .ref (al 9 17)) hx hb hts inX5 hown hK (c8_at hI) rfl 21 (by decide) (hts _ w_3_57) rfl rfl dX5_lays_119 ?_
                  refine lv_iconst (v := 4) hx hb dX5_lays_122 (by decide) ?_
                  refine lv_iload hx hb dX5_lays_123 (lv_at hl 5 rfl) ?_
                  refine lv_imul hx hb dX5_lays_125 ?_
                  refine W.eq (g2 := F0 m 126 ls (.int (nI (4 * (r + 1))) :: [.ref (al 9 17)])) (by rw [i4mul]) ?_
                  refine lv_iload hx hb dX5_lays_126 (lv_at hl 3 rfl) ?_
                  refine lv_iadd hx hb dX5_lays_128 ?_
                  refine W.eq (g2 := F0 m 129 ls (.int (nI (4 * (r + 1) + q)) :: [.ref (al 9 17)])) (by rw [nI_add]) ?_
                  refine lv_lload hx hb dX5_lays_129 (lv_at hl 0 rfl) ?_
                  refine sx_last hx hb hK hS (c9_17_at hI) (c9_17_lo hI) 1 rfl (vp_in_nI (show 4 * (r + 1) + q < 244 by omega) (by decide)) dX5_lays_131 (fun H locs hq => ?_)
                  rw [hcq] at hq
                  have hI := c9_17_uL (f := 4 * (r + 1) + q) (v := mX τ r h g w) hI hq
                  have hS := hq.2.2.2
                  refine lv_iinc (v := (nI q) + 1) (lv' := [(7, .int ((nI q) + 1)), (10, .long (mX τ r h g w)), (9, .int (nI (g + 1))), (8, .int (nI k)), (5, .long w), (4, .int (nI (r + 1))), (1, .int h), (0, .ref (al 8 0))]) hx hb dX5_lays_132 hl (k := 3) rfl rfl (by decide) rfl (fun ls hl => ?_)
                  refine lv_lload hx hb dX5_lays_135 (lv_at hl 4 rfl) ?_
                  refine lv_lload hx hb dX5_lays_137 (lv_at hl 1 rfl) ?_
                  refine lv_lsub hx hb dX5_lays_139 ?_
                  refine lv_lstore (lv' := [(5, .long (w - (mX τ r h g w))), (7, .int ((nI q) + 1)), (10, .long (mX τ r h g w)), (9, .int (nI (g + 1))), (8, .int (nI k)), (4, .int (nI (r + 1))), (1, .int h), (0, .ref (al 8 0))]) hx hb dX5_lays_140 hl (by decide) rfl (fun ls hl => ?_)
                  refine lv_iinc (v := (nI k) + 1) (lv' := [(8, .int ((nI k) + 1)), (5, .long (w - (mX τ r h g w))), (7, .int ((nI q) + 1)), (10, .long (mX τ r h g w)), (9, .int (nI (g + 1))), (4, .int (nI (r + 1))), (1, .int h), (0, .ref (al 8 0))]) hx hb dX5_lays_142 hl (k := 4) rfl rfl (by decide) rfl (fun ls hl => ?_)
                  refine lv_goto (tgt := 17) hx hb dX5_lays_145 (by decide) ?_
                  exact ih (k + 1, t, w - mX τ r h g w, q + 1, mLayP τ r q g (mX τ r h g w)) ls _ _ (by simp only [List.length_cons]; omega) ⟨hI, hS, ⟨hdk1, (by omega), (by omega), WFm_p hwt, hto, (by rw [mLayL, if_neg c_30, if_neg c_86, if_neg c_92] at hk; exact hk)⟩, (by have h9 := lv_sub hl [0, 2, 1, 5, 6, 7] rfl; rw [nI_1, nI_1] at h9; exact h9)⟩
              · refine lv_iconst (v := 0) hx hb dX5_lays_95 (by decide) ?_
                exact W.zret (v := 0) hx hb hr rfl (fun t ht hW => ⟨⟨0, τ, rfl, (by rw [mLayL, if_neg c_30, if_neg c_86, if_pos c_92] at hk; rw [← hk] <;> rfl), iv_giveM ht hI⟩, hS.F ht⟩) hS.2.2 dX5_lays_96

set_option maxHeartbeats 4000000 in
set_option maxRecDepth 100000 in
theorem m_reserve (l : Launch) (D : va_G) (dA : Nat → ClassId) (sa : Nat → Nat) (lo : Nat) (al : Nat → Nat → Nat) (σ μ : CS) (d h : Int32) (x : Int64) (n r : Nat) (hw : WFm μ n r) (O : List Nat) (hO : Or μ n O) : Met l yX5_reserve wsX5_reserve ({ frames := 5, cells := 0, slots := 0, locals := 170 }) (va_Pc [.ref (al 8 0), .int d, .int h, .long x] (ivP D dA sa lo al σ μ)) (va_Qi (fun z9 u => (z9, u) = cResM μ n r O d h x) (ivM D dA lo al σ) (fun q => lo ≤ q)) 0 0 (fun q => lo ≤ q) := by
  refine Met.ofW (cc := cX5_reserve) (maxL := 5) (ret := some .int) (by decide) rfl ?_
  intro p e s m args below meth c s₁ B hml hv
  obtain ⟨rfl, hI, hwd⟩ := hv
  have hx := B.exec
  have hb := B.bytes
  have hr := B.returns
  have hts : ∀ w ∈ WSall, w.before _ s = true := fun w h => atoms_spec (ws := wsX5_reserve) B.pre w (List.mem_cons_of_mem _ h)
  have hown : s.vm.findClass RX5 = some m.cls := findClass_of_methodNamed B.named
  have hlocks := B.notSynchronized
  have hK := hwd.1
  have hS : va_S (fun q => lo ≤ q) s.heap s.heap [] := va_S.rf
  have hl := lv_entry ([.ref (al 8 0), .int d, .int h, .long x]) (n := 5) (Nat.le_of_ble_eq_true rfl)
  rw [lg_entry_eq]
  generalize (lg_sl ([.ref (al 8 0), .int d, .int h, .long x]) ++ List.replicate (5 - (lg_sl ([.ref (al 8 0), .int d, .int h, .long x])).length) Slot.unset).toArray = ls at hl ⊢
  have hl : lv_has ls 5 [(0, .ref (al 8 0)), (1, .int d), (2, .int h), (3, .long x)] := hl
  obtain ⟨hn20, hr60, hgn, hrn, hor, hpt, hpr, hdn⟩ := id hw
  refine lv_iload_n hx hb dX5_reserve_0 rfl (lv_at hl 1 rfl) ?_
  refine lv_i2l hx hb dX5_reserve_1 rfl ?_
  refine lv_lconst (v := 0) hx hb dX5_reserve_2 (by decide) ?_
  refine lv_ldc2 (v := 3) hx hb hown (hts _ w_3_176) dX5_reserve_3 ?_
  refine vp_callSi (W.runS (As := [.long d.toInt64, .long 0, .long 3]) (rest := []) ⟨hx, hb, hml, hown, hts⟩ (m_in l D dA sa lo al σ μ d.toInt64 0 3) (cwS 3 hts (gdS w_3_118 w_3_119 w_1_3 w_3_120) rfl rfl rfl (by decide +kernel) ⟨Nat.le_of_ble_eq_true rfl, Nat.le_of_ble_eq_true rfl⟩) ⟨iv_bl, fun U hU hW => ⟨rfl, iv_use hI hwd hS hU hW⟩⟩ rfl rfl hl.1 rfl (lv_room (Nat.le_of_ble_eq_true rfl)) dX5_reserve_6 ⟨Nat.le_of_ble_eq_true rfl, Nat.le_of_ble_eq_true rfl⟩) (fun r_6 e_6 => ?_)
  subst e_6
  refine lv_if_eq (tgt := 30) hx hb dX5_reserve_9 (by decide) (fun c_9 => ?_) (fun c_9 => ?_)
  · have c_9 := bp_0.mp c_9
    refine lv_aload_n hx hb dX5_reserve_30 rfl (lv_at hl 0 rfl) ?_
    refine lv_iconst (v := 1) hx hb dX5_reserve_31 (by decide) ?_
    refine va_calli (va_runV (As := [.int 1]) (rest := []) ⟨hx, hb, hml, hown, hts⟩ (m_refuse l D dA sa lo al σ μ 1) (cwV 1 hts (gdV w_3_126 w_3_128 wp_10 w_1_3 w_3_129) rfl rfl rfl (by decide +kernel) ⟨Nat.le_of_ble_eq_true rfl, Nat.le_of_ble_eq_true rfl⟩) ⟨iv_bl, sx_recv hK (c8_at hI) rfl, fun U hU hW => ⟨rfl, iv_use hI hwd hS hU hW⟩⟩ rfl rfl hl.1 rfl (lv_room (Nat.le_of_ble_eq_true rfl)) dX5_reserve_32 ⟨Nat.le_of_ble_eq_true rfl, Nat.le_of_ble_eq_true rfl⟩) hS (fun q _ h => h) (fun q h => h) (fun r_32 u9 T9 H1 locs ht9 hvm9 e_32 hB9 hz9 hk9 hS => ?_)
    have hI := iv_takeM ht9 hB9
    clear hB9 hk9
    obtain ⟨rfl, rfl⟩ := e_32
    exact W.iret (v := 0) hx hb hr (fun t ht hW => ⟨⟨0, uI μ 8 0 0 1, rfl, (by unfold cResM; rw [if_neg c_9]), iv_giveM ht hI⟩, hS.F ht⟩) hS.2.2 dX5_reserve_35
  · have c_9 := bp_n0.mp c_9
    refine lv_iload_n hx hb dX5_reserve_12 rfl (lv_at hl 2 rfl) ?_
    refine vp_callSi (W.runS (As := [.int h]) (rest := []) ⟨hx, hb, hml, hown, hts⟩ (m_isHolder l D dA sa lo al σ μ h) (cwS 1 hts (gdS w_3_123 w_3_124 w_1_3 w_3_125) rfl rfl rfl (by decide +kernel) ⟨Nat.le_of_ble_eq_true rfl, Nat.le_of_ble_eq_true rfl⟩) ⟨iv_bl, fun U hU hW => ⟨rfl, iv_use hI hwd hS hU hW⟩⟩ rfl rfl hl.1 rfl (lv_room (Nat.le_of_ble_eq_true rfl)) dX5_reserve_13 ⟨Nat.le_of_ble_eq_true rfl, Nat.le_of_ble_eq_true rfl⟩) (fun r_13 e_13 => ?_)
    subst e_13
    refine lv_if_eq (tgt := 30) hx hb dX5_reserve_16 (by decide) (fun c_16 => ?_) (fun c_16 => ?_)
    · have c_16 := bp_0.mp c_16
      refine lv_aload_n hx hb dX5_reserve_30 rfl (lv_at hl 0 rfl) ?_
      refine lv_iconst (v := 1) hx hb dX5_reserve_31 (by decide) ?_
      refine va_calli (va_runV (As := [.int 1]) (rest := []) ⟨hx, hb, hml, hown, hts⟩ (m_refuse l D dA sa lo al σ μ 1) (cwV 1 hts (gdV w_3_126 w_3_128 wp_10 w_1_3 w_3_129) rfl rfl rfl (by decide +kernel) ⟨Nat.le_of_ble_eq_true rfl, Nat.le_of_ble_eq_true rfl⟩) ⟨iv_bl, sx_recv hK (c8_at hI) rfl, fun U hU hW => ⟨rfl, iv_use hI hwd hS hU hW⟩⟩ rfl rfl hl.1 rfl (lv_room (Nat.le_of_ble_eq_true rfl)) dX5_reserve_32 ⟨Nat.le_of_ble_eq_true rfl, Nat.le_of_ble_eq_true rfl⟩) hS (fun q _ h => h) (fun q h => h) (fun r_32 u9 T9 H1 locs ht9 hvm9 e_32 hB9 hz9 hk9 hS => ?_)
      have hI := iv_takeM ht9 hB9
      clear hB9 hk9
      obtain ⟨rfl, rfl⟩ := e_32
      exact W.iret (v := 0) hx hb hr (fun t ht hW => ⟨⟨0, uI μ 8 0 0 1, rfl, (by unfold cResM; rw [if_pos c_9, if_neg c_16]), iv_giveM ht hI⟩, hS.F ht⟩) hS.2.2 dX5_reserve_35
    · have c_16 := bp_n0.mp c_16
      refine lv_lload_n hx hb dX5_reserve_19 rfl (lv_at hl 3 rfl) ?_
      refine lv_lconst (v := 1) hx hb dX5_reserve_20 (by decide) ?_
      refine lv_ldc2 (v := 1000000000) hx hb hown (hts _ w_3_117) dX5_reserve_21 ?_
      refine vp_callSi (W.runS (As := [.long x, .long 1, .long 1000000000]) (rest := []) ⟨hx, hb, hml, hown, hts⟩ (m_in l D dA sa lo al σ μ x 1 1000000000) (cwS 3 hts (gdS w_3_118 w_3_119 w_1_3 w_3_120) rfl rfl rfl (by decide +kernel) ⟨Nat.le_of_ble_eq_true rfl, Nat.le_of_ble_eq_true rfl⟩) ⟨iv_bl, fun U hU hW => ⟨rfl, iv_use hI hwd hS hU hW⟩⟩ rfl rfl hl.1 rfl (lv_room (Nat.le_of_ble_eq_true rfl)) dX5_reserve_24 ⟨Nat.le_of_ble_eq_true rfl, Nat.le_of_ble_eq_true rfl⟩) (fun r_24 e_24 => ?_)
      subst e_24
      refine lv_if_ne (tgt := 36) hx hb dX5_reserve_27 (by decide) (fun c_27 => ?_) (fun c_27 => ?_)
      · have c_27 := bp_n0.mp c_27
        refine lv_aload_n hx hb dX5_reserve_36 rfl (lv_at hl 0 rfl) ?_
        refine sx_get (ci := 5) (C := RX5) (T := TX5) (N := 24) (v := .int (fI μ 8 0 15)) hx hb hts inX5 hown hK (c8_at hI) rfl 15 (by decide) (hts _ w_3_51) rfl rfl dX5_reserve_37 ?_
        refine lv_bipush (v := 60) hx hb dX5_reserve_40 (by decide) ?_
        refine lv_icmp_ne (tgt := 51) hx hb dX5_reserve_42 (by decide) (fun c_42 => ?_) (fun c_42 => ?_)
        · have hr9 : r < 60 := by
            have : r ≠ 60 := fun e => c_42 (by rw [hrn, e]; rfl)
            omega
          have hvx : vp_in d 4 := in3_vp c_9
          refine lv_aload_n hx hb dX5_reserve_51 rfl (lv_at hl 0 rfl) ?_
          refine lv_iconst (v := 0) hx hb dX5_reserve_52 (by decide) ?_
          refine sx_put (ci := 5) (v := .int 0) (ty := .int) (C := RX5) (T := TX5) (N := 24) hx hb hts inX5 tyX5 okX5 nmX5 hown hK hS (c8_at hI) (c8_lo hI) rfl 0 (by decide) (hts _ w_3_36) rfl rfl (by decide +kernel) rfl rfl (Nat.le_of_ble_eq_true rfl) dX5_reserve_53 (fun H locs hq => ?_)
          have hI := c8_uI (f := 0) (v := 0) hI rfl hq
          have hS := hq.2.2.2
          refine lv_aload_n hx hb dX5_reserve_56 rfl (lv_at hl 0 rfl) ?_
          refine lv_iload_n hx hb dX5_reserve_57 rfl (lv_at hl 2 rfl) ?_
          refine lv_lload_n hx hb dX5_reserve_58 rfl (lv_at hl 3 rfl) ?_
          refine va_calli (va_runV (As := [.int h, .long x]) (rest := []) ⟨hx, hb, hml, hown, hts⟩ (m_lays l D dA sa lo al σ (uI μ 8 0 0 0) h x n r (WFm_th hw) hr9 O (Or_th hO)) (cwV 2 hts (gdV w_3_177 w_3_179 wp_18 w_1_3 w_3_180) rfl rfl rfl (by decide +kernel) ⟨Nat.le_of_ble_eq_true rfl, Nat.le_of_ble_eq_true rfl⟩) ⟨iv_bl, sx_recv hK (c8_at hI) rfl, fun U hU hW => ⟨rfl, iv_use hI hwd hS hU hW⟩⟩ rfl rfl hl.1 rfl (lv_room (Nat.le_of_ble_eq_true rfl)) dX5_reserve_59 ⟨Nat.le_of_ble_eq_true rfl, Nat.le_of_ble_eq_true rfl⟩) hS (fun q _ h => h) (fun q h => h) (fun r_59 u9 T9 H1 locs ht9 hvm9 e_59 hB9 hz9 hk9 hS => ?_)
          have hI := iv_takeM ht9 hB9
          clear hB9 hk9
          obtain ⟨rfl, rfl⟩ := e_59
          refine lv_if_ne (tgt := 76) hx hb dX5_reserve_62 (by decide) (fun c_62 => ?_) (fun c_62 => ?_)
          · have c_62 := b2i_n0.mp c_62
            have hry : fI (mLayL r h O (uI μ 8 0 0 0) x 0).1 8 0 15 = nI r := (WFm_lay (h := h) O _ x 0 (WFm_th hw)).2.2.2.1
            refine lv_aload_n hx hb dX5_reserve_76 rfl (lv_at hl 0 rfl) ?_
            refine sx_get (ci := 5) (C := RX5) (T := TX5) (N := 24) (v := .ref (al 9 18)) hx hb hts inX5 hown hK (c8_at hI) rfl 22 (by decide) (hts _ w_3_58) rfl rfl dX5_reserve_77 ?_
            refine lv_iload_n hx hb dX5_reserve_80 rfl (lv_at hl 1 rfl) ?_
            refine sx_zald hx hb hK (c9_18_at hI) 2 rfl hvx dX5_reserve_81 ?_
            refine lv_if_eq (tgt := 116) hx hb dX5_reserve_82 (by decide) (fun c_82 => ?_) (fun c_82 => ?_)
            · refine lv_aload_n hx hb dX5_reserve_116 rfl (lv_at hl 0 rfl) ?_
              refine lv_dup hx hb dX5_reserve_117 rfl ?_
              refine sx_get (ci := 5) (C := RX5) (T := TX5) (N := 24) (v := .int (fI (mLayL r h O (uI μ 8 0 0 0) x 0).1 8 0 15)) hx hb hts inX5 hown hK (c8_at hI) rfl 15 (by decide) (hts _ w_3_51) rfl rfl dX5_reserve_118 ?_
              refine lv_iconst (v := 1) hx hb dX5_reserve_121 (by decide) ?_
              refine lv_iadd hx hb dX5_reserve_122 ?_
              refine W.eq (g2 := F0 m 123 ls (.int (nI (r + 1)) :: [.ref (al 8 0)])) (by rw [hry, nI_1]) ?_
              refine sx_put (ci := 5) (v := .int (nI (r + 1))) (ty := .int) (C := RX5) (T := TX5) (N := 24) hx hb hts inX5 tyX5 okX5 nmX5 hown hK hS (c8_at hI) (c8_lo hI) rfl 15 (by decide) (hts _ w_3_51) rfl rfl (by decide +kernel) rfl rfl (Nat.le_of_ble_eq_true rfl) dX5_reserve_123 (fun H locs hq => ?_)
              have hI := c8_uI (f := 15) (v := nI (r + 1)) hI rfl hq
              have hS := hq.2.2.2
              have hgs : fI (uI (mLayL r h O (uI μ 8 0 0 0) x 0).1 8 0 15 (nI (r + 1))) 8 0 15 = nI (r + 1) := by rw [fI_uI, up3_at, va_up_self]
              have hcr : (fI (uI (mLayL r h O (uI μ 8 0 0 0) x 0).1 8 0 15 (nI (r + 1))) 8 0 15).toNatClampNeg = r + 1 := by rw [hgs]; exact nI_clamp (by omega)
              have hvr : vp_in (fI (uI (mLayL r h O (uI μ 8 0 0 0) x 0).1 8 0 15 (nI (r + 1))) 8 0 15) 61 := by rw [hgs]; exact vp_in_nI (by omega) (by decide)
              refine lv_aload_n hx hb dX5_reserve_126 rfl (lv_at hl 0 rfl) ?_
              refine sx_get (ci := 5) (C := RX5) (T := TX5) (N := 24) (v := .ref (al 9 12)) hx hb hts inX5 hown hK (c8_at hI) rfl 16 (by decide) (hts _ w_3_52) rfl rfl dX5_reserve_127 ?_
              refine lv_aload_n hx hb dX5_reserve_130 rfl (lv_at hl 0 rfl) ?_
              refine sx_get (ci := 5) (C := RX5) (T := TX5) (N := 24) (v := .int (fI (uI (mLayL r h O (uI μ 8 0 0 0) x 0).1 8 0 15 (nI (r + 1))) 8 0 15)) hx hb hts inX5 hown hK (c8_at hI) rfl 15 (by decide) (hts _ w_3_51) rfl rfl dX5_reserve_131 ?_
              refine lv_iload_n hx hb dX5_reserve_134 rfl (lv_at hl 2 rfl) ?_
              refine sx_iast hx hb hK hS (c9_12_at hI) (c9_12_lo hI) 0 rfl hvr dX5_reserve_135 (fun H locs hq => ?_)
              rw [hcr] at hq
              have hI := c9_12_uI (f := r + 1) (v := h) hI hq
              have hS := hq.2.2.2
              refine lv_aload_n hx hb dX5_reserve_136 rfl (lv_at hl 0 rfl) ?_
              refine sx_get (ci := 5) (C := RX5) (T := TX5) (N := 24) (v := .ref (al 9 13)) hx hb hts inX5 hown hK (c8_at hI) rfl 17 (by decide) (hts _ w_3_53) rfl rfl dX5_reserve_137 ?_
              refine lv_aload_n hx hb dX5_reserve_140 rfl (lv_at hl 0 rfl) ?_
              refine sx_get (ci := 5) (C := RX5) (T := TX5) (N := 24) (v := .int (fI (uI (mLayL r h O (uI μ 8 0 0 0) x 0).1 8 0 15 (nI (r + 1))) 8 0 15)) hx hb hts inX5 hown hK (c8_at hI) rfl 15 (by decide) (hts _ w_3_51) rfl rfl dX5_reserve_141 ?_
              refine lv_lload_n hx hb dX5_reserve_144 rfl (lv_at hl 3 rfl) ?_
              refine sx_last hx hb hK hS (c9_13_at hI) (c9_13_lo hI) 1 rfl hvr dX5_reserve_145 (fun H locs hq => ?_)
              rw [hcr] at hq
              have hI := c9_13_uL (f := r + 1) (v := x) hI hq
              have hS := hq.2.2.2
              refine lv_aload_n hx hb dX5_reserve_146 rfl (lv_at hl 0 rfl) ?_
              refine sx_get (ci := 5) (C := RX5) (T := TX5) (N := 24) (v := .int (fI (uI (mLayL r h O (uI μ 8 0 0 0) x 0).1 8 0 15 (nI (r + 1))) 8 0 15)) hx hb hts inX5 hown hK (c8_at hI) rfl 15 (by decide) (hts _ w_3_51) rfl rfl dX5_reserve_147 ?_
              exact W.iret (v := fI (uI (mLayL r h O (uI μ 8 0 0 0) x 0).1 8 0 15 (nI (r + 1))) 8 0 15) hx hb hr (fun t ht hW => ⟨⟨fI (uI (mLayL r h O (uI μ 8 0 0 0) x 0).1 8 0 15 (nI (r + 1))) 8 0 15, uL (uI (uI (mLayL r h O (uI μ 8 0 0 0) x 0).1 8 0 15 (nI (r + 1))) 9 12 (r + 1) h) 9 13 (r + 1) x, rfl, (by unfold cResM; rw [if_pos c_9, if_pos c_16, if_pos c_27, if_neg (fun q => c_42 (hrn.trans q)), if_pos c_62, if_pos c_82, hgs]), iv_giveM ht hI⟩, hS.F ht⟩) hS.2.2 dX5_reserve_150
            · refine lv_aload_n hx hb dX5_reserve_85 rfl (lv_at hl 0 rfl) ?_
              refine sx_get (ci := 5) (C := RX5) (T := TX5) (N := 24) (v := .ref (al 9 18)) hx hb hts inX5 hown hK (c8_at hI) rfl 22 (by decide) (hts _ w_3_58) rfl rfl dX5_reserve_86 ?_
              refine lv_iload_n hx hb dX5_reserve_89 rfl (lv_at hl 1 rfl) ?_
              refine lv_iconst (v := 0) hx hb dX5_reserve_90 (by decide) ?_
              refine sx_zast hx hb hK hS (c9_18_at hI) (c9_18_lo hI) 2 rfl hvx dX5_reserve_91 (fun H locs hq => ?_)
              rw [(show vp_nar .boolean 0 = 0 from rfl)] at hq
              have hI := c9_18_uI (f := d.toNatClampNeg) (v := 0) hI hq
              have hS := hq.2.2.2
              refine lv_aload_n hx hb dX5_reserve_92 rfl (lv_at hl 0 rfl) ?_
              refine sx_get (ci := 5) (C := RX5) (T := TX5) (N := 24) (v := .ref (al 9 19)) hx hb hts inX5 hown hK (c8_at hI) rfl 23 (by decide) (hts _ w_3_59) rfl rfl dX5_reserve_93 ?_
              refine lv_iload_n hx hb dX5_reserve_96 rfl (lv_at hl 1 rfl) ?_
              refine lv_dup2_11 hx hb dX5_reserve_97 rfl rfl ?_
              refine sx_iald hx hb hK (c9_19_at hI) 0 rfl hvx dX5_reserve_98 ?_
              refine W.eq (g2 := F0 m 99 ls (.int (fI (mLayL r h O (uI μ 8 0 0 0) x 0).1 9 19 d.toNatClampNeg) :: [.int d, .ref (al 9 19)])) rfl ?_
              refine lv_iconst (v := 1) hx hb dX5_reserve_99 (by decide) ?_
              refine lv_iadd hx hb dX5_reserve_100 ?_
              refine sx_iast hx hb hK hS (c9_19_at hI) (c9_19_lo hI) 0 rfl hvx dX5_reserve_101 (fun H locs hq => ?_)
              have hI := c9_19_uI (f := d.toNatClampNeg) (v := (fI (mLayL r h O (uI μ 8 0 0 0) x 0).1 9 19 d.toNatClampNeg) + 1) hI hq
              have hS := hq.2.2.2
              refine lv_aload_n hx hb dX5_reserve_102 rfl (lv_at hl 0 rfl) ?_
              refine sx_get (ci := 5) (C := RX5) (T := TX5) (N := 24) (v := .ref (al 9 15)) hx hb hts inX5 hown hK (c8_at hI) rfl 19 (by decide) (hts _ w_3_55) rfl rfl dX5_reserve_103 ?_
              refine lv_aload_n hx hb dX5_reserve_106 rfl (lv_at hl 0 rfl) ?_
              refine sx_get (ci := 5) (C := RX5) (T := TX5) (N := 24) (v := .int (fI (mLayL r h O (uI μ 8 0 0 0) x 0).1 8 0 15)) hx hb hts inX5 hown hK (c8_at hI) rfl 15 (by decide) (hts _ w_3_51) rfl rfl dX5_reserve_107 ?_
              refine lv_iconst (v := 1) hx hb dX5_reserve_110 (by decide) ?_
              refine lv_iadd hx hb dX5_reserve_111 ?_
              refine W.eq (g2 := F0 m 112 ls (.int (nI (r + 1)) :: [.ref (al 9 15)])) (by rw [hry, nI_1]) ?_
              have hcr : (nI (r + 1)).toNatClampNeg = r + 1 := nI_clamp (by omega)
              have hvr : vp_in (nI (r + 1)) 61 := vp_in_nI (by omega) (by decide)
              refine lv_iconst (v := 0) hx hb dX5_reserve_112 (by decide) ?_
              refine sx_iast hx hb hK hS (c9_15_at hI) (c9_15_lo hI) 0 rfl hvr dX5_reserve_113 (fun H locs hq => ?_)
              rw [hcr] at hq
              have hI := c9_15_uI (f := r + 1) (v := 0) hI hq
              have hS := hq.2.2.2
              refine lv_iconst (v := (-1)) hx hb dX5_reserve_114 (by decide) ?_
              exact W.iret (v := (-1)) hx hb hr (fun t ht hW => ⟨⟨(-1), uI (uI (uI (mLayL r h O (uI μ 8 0 0 0) x 0).1 9 18 d.toNatClampNeg 0) 9 19 d.toNatClampNeg ((fI (mLayL r h O (uI μ 8 0 0 0) x 0).1 9 19 d.toNatClampNeg) + 1)) 9 15 (r + 1) 0, rfl, (by unfold cResM; rw [if_pos c_9, if_pos c_16, if_pos c_27, if_neg (fun q => c_42 (hrn.trans q)), if_pos c_62, if_neg c_82]), iv_giveM ht hI⟩, hS.F ht⟩) hS.2.2 dX5_reserve_115
          · have c_62 := b2i_0.mp c_62
            refine lv_ldc2 (v := (-2)) hx hb hown (hts _ w_3_181) dX5_reserve_65 ?_
            refine lv_aload_n hx hb dX5_reserve_68 rfl (lv_at hl 0 rfl) ?_
            refine lv_iload_n hx hb dX5_reserve_69 rfl (lv_at hl 2 rfl) ?_
            refine vp_callSl (W.runV (As := [.int h]) (rest := [.long (-2)]) ⟨hx, hb, hml, hown, hts⟩ (m_together l D dA sa lo al σ (mLayL r h O (uI μ 8 0 0 0) x 0).1 h n r (WFm_lay O _ x 0 (WFm_th hw))) (cwV 1 hts (gdV w_3_146 w_3_148 wp_12 w_1_3 w_3_149) rfl rfl rfl (by decide +kernel) ⟨Nat.le_of_ble_eq_true rfl, Nat.le_of_ble_eq_true rfl⟩) ⟨iv_bl, sx_recv hK (c8_at hI) rfl, fun U hU hW => ⟨rfl, iv_use hI hwd hS hU hW⟩⟩ rfl rfl hl.1 rfl (lv_room (Nat.le_of_ble_eq_true rfl)) dX5_reserve_70 ⟨Nat.le_of_ble_eq_true rfl, Nat.le_of_ble_eq_true rfl⟩) (fun r_70 e_70 => ?_)
            subst e_70
            refine lv_lsub hx hb dX5_reserve_73 ?_
            refine lv_l2i hx hb dX5_reserve_74 rfl ?_
            exact W.iret (v := ((-2) - (mTog (mLayL r h O (uI μ 8 0 0 0) x 0).1 n r h)).toInt32) hx hb hr (fun t ht hW => ⟨⟨((-2) - (mTog (mLayL r h O (uI μ 8 0 0 0) x 0).1 n r h)).toInt32, (mLayL r h O (uI μ 8 0 0 0) x 0).1, rfl, (by unfold cResM; rw [if_pos c_9, if_pos c_16, if_pos c_27, if_neg (fun q => c_42 (hrn.trans q)), if_neg c_62]), iv_giveM ht hI⟩, hS.F ht⟩) hS.2.2 dX5_reserve_75
        · refine lv_aload_n hx hb dX5_reserve_45 rfl (lv_at hl 0 rfl) ?_
          refine lv_iconst (v := 2) hx hb dX5_reserve_46 (by decide) ?_
          refine va_calli (va_runV (As := [.int 2]) (rest := []) ⟨hx, hb, hml, hown, hts⟩ (m_refuse l D dA sa lo al σ μ 2) (cwV 1 hts (gdV w_3_126 w_3_128 wp_10 w_1_3 w_3_129) rfl rfl rfl (by decide +kernel) ⟨Nat.le_of_ble_eq_true rfl, Nat.le_of_ble_eq_true rfl⟩) ⟨iv_bl, sx_recv hK (c8_at hI) rfl, fun U hU hW => ⟨rfl, iv_use hI hwd hS hU hW⟩⟩ rfl rfl hl.1 rfl (lv_room (Nat.le_of_ble_eq_true rfl)) dX5_reserve_47 ⟨Nat.le_of_ble_eq_true rfl, Nat.le_of_ble_eq_true rfl⟩) hS (fun q _ h => h) (fun q h => h) (fun r_47 u9 T9 H1 locs ht9 hvm9 e_47 hB9 hz9 hk9 hS => ?_)
          have hI := iv_takeM ht9 hB9
          clear hB9 hk9
          obtain ⟨rfl, rfl⟩ := e_47
          exact W.iret (v := 0) hx hb hr (fun t ht hW => ⟨⟨0, uI μ 8 0 0 2, rfl, (by unfold cResM; rw [if_pos c_9, if_pos c_16, if_pos c_27, if_pos (hrn.symm.trans c_42)]), iv_giveM ht hI⟩, hS.F ht⟩) hS.2.2 dX5_reserve_50
      · have c_27 := bp_0.mp c_27
        refine lv_aload_n hx hb dX5_reserve_30 rfl (lv_at hl 0 rfl) ?_
        refine lv_iconst (v := 1) hx hb dX5_reserve_31 (by decide) ?_
        refine va_calli (va_runV (As := [.int 1]) (rest := []) ⟨hx, hb, hml, hown, hts⟩ (m_refuse l D dA sa lo al σ μ 1) (cwV 1 hts (gdV w_3_126 w_3_128 wp_10 w_1_3 w_3_129) rfl rfl rfl (by decide +kernel) ⟨Nat.le_of_ble_eq_true rfl, Nat.le_of_ble_eq_true rfl⟩) ⟨iv_bl, sx_recv hK (c8_at hI) rfl, fun U hU hW => ⟨rfl, iv_use hI hwd hS hU hW⟩⟩ rfl rfl hl.1 rfl (lv_room (Nat.le_of_ble_eq_true rfl)) dX5_reserve_32 ⟨Nat.le_of_ble_eq_true rfl, Nat.le_of_ble_eq_true rfl⟩) hS (fun q _ h => h) (fun q h => h) (fun r_32 u9 T9 H1 locs ht9 hvm9 e_32 hB9 hz9 hk9 hS => ?_)
        have hI := iv_takeM ht9 hB9
        clear hB9 hk9
        obtain ⟨rfl, rfl⟩ := e_32
        exact W.iret (v := 0) hx hb hr (fun t ht hW => ⟨⟨0, uI μ 8 0 0 1, rfl, (by unfold cResM; rw [if_pos c_9, if_pos c_16, if_neg c_27]), iv_giveM ht hI⟩, hS.F ht⟩) hS.2.2 dX5_reserve_35

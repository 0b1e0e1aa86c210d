set_option maxHeartbeats 4000000 in
set_option maxRecDepth 100000 in
theorem m_refuse (l : Launch) (D : va_G) (dA : Nat → ClassId) (sa : Nat → Nat) (lo : Nat) (al : Nat → Nat → Nat) (σ μ : CS) (y : Int32) : Met l yX5_refuse wsX5_refuse ({ frames := 0, cells := 0, slots := 0, locals := 0 }) (va_Pc [.ref (al 8 0), .int y] (ivP D dA sa lo al σ μ)) (va_Qi (fun z9 u => (z9, u) = (0, uI μ 8 0 0 y)) (ivM D dA lo al σ) (fun q => lo ≤ q)) 0 0 (fun q => lo ≤ q) := by
  refine Met.ofW (cc := cX5_refuse) (maxL := 2) (ret := some .int) (by decide) rfl ?_
  intro p e s m args below meth c s₁ B hml hv
  obtain ⟨rfl, hI, hwd⟩ := hv
  have hx := B.exec
  have hb := B.bytes
  have hr := B.returns
  have hts : ∀ w ∈ WSall, w.before _ s = true := fun w h => atoms_spec (ws := wsX5_refuse) B.pre w (List.mem_cons_of_mem _ h)
  have hown : s.vm.findClass RX5 = some m.cls := findClass_of_methodNamed B.named
  have hlocks := B.notSynchronized
  have hK := hwd.1
  have hS : va_S (fun q => lo ≤ q) s.heap s.heap [] := va_S.rf
  have hl := lv_entry ([.ref (al 8 0), .int y]) (n := 2) (Nat.le_of_ble_eq_true rfl)
  rw [lg_entry_eq]
  generalize (lg_sl ([.ref (al 8 0), .int y]) ++ List.replicate (2 - (lg_sl ([.ref (al 8 0), .int y])).length) Slot.unset).toArray = ls at hl ⊢
  have hl : lv_has ls 2 [(0, .ref (al 8 0)), (1, .int y)] := hl
  refine lv_aload_n hx hb dX5_refuse_0 rfl (lv_at hl 0 rfl) ?_
  refine lv_iload_n hx hb dX5_refuse_1 rfl (lv_at hl 1 rfl) ?_
  refine sx_put (ci := 5) (v := .int y) (ty := .int) (C := RX5) (T := TX5) (N := 24) hx hb hts inX5 tyX5 okX5 nmX5 hown hK hS (c8_at hI) (c8_lo hI) rfl 0 (by decide) (hts _ w_3_36) rfl rfl (by decide +kernel) rfl rfl (Nat.le_of_ble_eq_true rfl) dX5_refuse_2 (fun H locs hq => ?_)
  have hI := c8_uI (f := 0) (v := y) hI rfl hq
  have hS := hq.2.2.2
  refine lv_iconst (v := 0) hx hb dX5_refuse_5 (by decide) ?_
  exact W.iret (v := 0) hx hb hr (fun t ht hW => ⟨⟨0, uI μ 8 0 0 y, rfl, rfl, iv_giveM ht hI⟩, hS.F ht⟩) hS.2.2 dX5_refuse_6

set_option maxHeartbeats 4000000 in
set_option maxRecDepth 100000 in
theorem m_tick (l : Launch) (D : va_G) (dA : Nat → ClassId) (sa : Nat → Nat) (lo : Nat) (al : Nat → Nat → Nat) (σ μ : CS) (x : Int32) : Met l yX5_tick wsX5_tick ({ frames := 0, cells := 0, slots := 0, locals := 0 }) (va_Pc [.ref (al 8 0), .int x] (ivP D dA sa lo al σ μ)) (va_Qi (fun z9 u => (z9, u) = cTickM μ x) (ivM D dA lo al σ) (fun q => lo ≤ q)) 0 0 (fun q => lo ≤ q) := by
  refine Met.ofW (cc := cX5_tick) (maxL := 2) (ret := some .boolean) (by decide) rfl ?_
  intro p e s m args below meth c s₁ B hml hv
  obtain ⟨rfl, hI, hwd⟩ := hv
  have hx := B.exec
  have hb := B.bytes
  have hr := B.returns
  have hts : ∀ w ∈ WSall, w.before _ s = true := fun w h => atoms_spec (ws := wsX5_tick) B.pre w (List.mem_cons_of_mem _ h)
  have hown : s.vm.findClass RX5 = some m.cls := findClass_of_methodNamed B.named
  have hlocks := B.notSynchronized
  have hK := hwd.1
  have hS : va_S (fun q => lo ≤ q) s.heap s.heap [] := va_S.rf
  have hl := lv_entry ([.ref (al 8 0), .int x]) (n := 2) (Nat.le_of_ble_eq_true rfl)
  rw [lg_entry_eq]
  generalize (lg_sl ([.ref (al 8 0), .int x]) ++ List.replicate (2 - (lg_sl ([.ref (al 8 0), .int x])).length) Slot.unset).toArray = ls at hl ⊢
  have hl : lv_has ls 2 [(0, .ref (al 8 0)), (1, .int x)] := hl
  refine lv_aload_n hx hb dX5_tick_0 rfl (lv_at hl 0 rfl) ?_
  refine lv_iconst (v := 0) hx hb dX5_tick_1 (by decide) ?_
  refine sx_put (ci := 5) (v := .int 0) (ty := .int) (C := RX5) (T := TX5) (N := 24) hx hb hts inX5 tyX5 okX5 nmX5 hown hK hS (c8_at hI) (c8_lo hI) rfl 0 (by decide) (hts _ w_3_36) rfl rfl (by decide +kernel) rfl rfl (Nat.le_of_ble_eq_true rfl) dX5_tick_2 (fun H locs hq => ?_)
  have hI := c8_uI (f := 0) (v := 0) hI rfl hq
  have hS := hq.2.2.2
  refine lv_iload_n hx hb dX5_tick_5 rfl (lv_at hl 1 rfl) ?_
  refine lv_aload_n hx hb dX5_tick_6 rfl (lv_at hl 0 rfl) ?_
  refine sx_get (ci := 5) (C := RX5) (T := TX5) (N := 24) (v := .int (fI μ 8 0 2)) hx hb hts inX5 hown hK (c8_at hI) rfl 2 (by decide) (hts _ w_3_38) rfl rfl dX5_tick_7 ?_
  refine lv_icmp_lt (tgt := 19) hx hb dX5_tick_10 (by decide) (fun c_10 => ?_) (fun c_10 => ?_)
  · refine lv_iconst (v := 0) hx hb dX5_tick_19 (by decide) ?_
    exact W.zret (v := 0) hx hb hr rfl (fun t ht hW => ⟨⟨0, uI μ 8 0 0 0, rfl, (by unfold cTickM; simp only [if_pos c_10]), iv_giveM ht hI⟩, hS.F ht⟩) hS.2.2 dX5_tick_20
  · refine lv_iload_n hx hb dX5_tick_13 rfl (lv_at hl 1 rfl) ?_
    refine lv_ldc (v := 100000) hx hb hown (hts _ w_3_223) dX5_tick_14 ?_
    refine lv_icmp_le (tgt := 21) hx hb dX5_tick_16 (by decide) (fun c_16 => ?_) (fun c_16 => ?_)
    · refine lv_aload_n hx hb dX5_tick_21 rfl (lv_at hl 0 rfl) ?_
      refine lv_iload_n hx hb dX5_tick_22 rfl (lv_at hl 1 rfl) ?_
      refine sx_put (ci := 5) (v := .int x) (ty := .int) (C := RX5) (T := TX5) (N := 24) hx hb hts inX5 tyX5 okX5 nmX5 hown hK hS (c8_at hI) (c8_lo hI) rfl 2 (by decide) (hts _ w_3_38) rfl rfl (by decide +kernel) rfl rfl (Nat.le_of_ble_eq_true rfl) dX5_tick_23 (fun H locs hq => ?_)
      have hI := c8_uI (f := 2) (v := x) hI rfl hq
      have hS := hq.2.2.2
      refine lv_iconst (v := 1) hx hb dX5_tick_26 (by decide) ?_
      exact W.zret (v := 1) hx hb hr rfl (fun t ht hW => ⟨⟨1, uI (uI μ 8 0 0 0) 8 0 2 x, rfl, (by unfold cTickM; simp only [if_neg c_10, if_pos c_16]), iv_giveM ht hI⟩, hS.F ht⟩) hS.2.2 dX5_tick_27
    · refine lv_iconst (v := 0) hx hb dX5_tick_19 (by decide) ?_
      exact W.zret (v := 0) hx hb hr rfl (fun t ht hW => ⟨⟨0, uI μ 8 0 0 0, rfl, (by unfold cTickM; simp only [if_neg c_10, if_neg c_16]), iv_giveM ht hI⟩, hS.F ht⟩) hS.2.2 dX5_tick_20

set_option maxHeartbeats 4000000 in
set_option maxRecDepth 100000 in
theorem m_close (l : Launch) (D : va_G) (dA : Nat → ClassId) (sa : Nat → Nat) (lo : Nat) (al : Nat → Nat → Nat) (σ μ : CS) (x : Int32) (n r : Nat) (hw : WFm μ n r) : Met l yX5_close wsX5_close ({ frames := 1, cells := 0, slots := 0, locals := 30 }) (va_Pc [.ref (al 8 0), .int x] (ivP D dA sa lo al σ μ)) (va_Qi (fun z9 u => (z9, u) = cCloseM μ n x) (ivM D dA lo al σ) (fun q => lo ≤ q)) 0 0 (fun q => lo ≤ q) := by
  refine Met.ofW (cc := cX5_close) (maxL := 2) (ret := some .boolean) (by decide) rfl ?_
  intro p e s m args below meth c s₁ B hml hv
  obtain ⟨rfl, hI, hwd⟩ := hv
  have hx := B.exec
  have hb := B.bytes
  have hr := B.returns
  have hts : ∀ w ∈ WSall, w.before _ s = true := fun w h => atoms_spec (ws := wsX5_close) B.pre w (List.mem_cons_of_mem _ h)
  have hown : s.vm.findClass RX5 = some m.cls := findClass_of_methodNamed B.named
  have hlocks := B.notSynchronized
  have hK := hwd.1
  have hS : va_S (fun q => lo ≤ q) s.heap s.heap [] := va_S.rf
  have hl := lv_entry ([.ref (al 8 0), .int x]) (n := 2) (Nat.le_of_ble_eq_true rfl)
  rw [lg_entry_eq]
  generalize (lg_sl ([.ref (al 8 0), .int x]) ++ List.replicate (2 - (lg_sl ([.ref (al 8 0), .int x])).length) Slot.unset).toArray = ls at hl ⊢
  have hl : lv_has ls 2 [(0, .ref (al 8 0)), (1, .int x)] := hl
  obtain ⟨hn20, hr60, hgn, hrn, hor, hpt, hpr, hdn⟩ := id hw
  refine lv_aload_n hx hb dX5_close_0 rfl (lv_at hl 0 rfl) ?_
  refine lv_iconst (v := 0) hx hb dX5_close_1 (by decide) ?_
  refine sx_put (ci := 5) (v := .int 0) (ty := .int) (C := RX5) (T := TX5) (N := 24) hx hb hts inX5 tyX5 okX5 nmX5 hown hK hS (c8_at hI) (c8_lo hI) rfl 0 (by decide) (hts _ w_3_36) rfl rfl (by decide +kernel) rfl rfl (Nat.le_of_ble_eq_true rfl) dX5_close_2 (fun H locs hq => ?_)
  have hI := c8_uI (f := 0) (v := 0) hI rfl hq
  have hS := hq.2.2.2
  refine lv_aload_n hx hb dX5_close_5 rfl (lv_at hl 0 rfl) ?_
  refine lv_iload_n hx hb dX5_close_6 rfl (lv_at hl 1 rfl) ?_
  refine vp_callSi (W.runV (As := [.int x]) (rest := []) ⟨hx, hb, hml, hown, hts⟩ (m_isGuarantee l D dA sa lo al σ (uI μ 8 0 0 0) x) (cwV 1 hts (gdV w_3_138 w_3_140 wp_11 w_1_3 w_3_141) rfl rfl rfl (by decide +kernel) ⟨Nat.le_of_ble_eq_true rfl, Nat.le_of_ble_eq_true rfl⟩) ⟨iv_bl, sx_recv hK (c8_at hI) rfl, fun U hU hW => ⟨rfl, iv_use hI hwd hS hU hW⟩⟩ rfl rfl hl.1 rfl (lv_room (Nat.le_of_ble_eq_true rfl)) dX5_close_7 ⟨Nat.le_of_ble_eq_true rfl, Nat.le_of_ble_eq_true rfl⟩) (fun r_7 e_7 => ?_)
  subst e_7
  refine lv_if_eq (tgt := 22) hx hb dX5_close_10 (by decide) (fun c_10 => ?_) (fun c_10 => ?_)
  · have c_10 := bp_0.mp c_10
    refine lv_iconst (v := 0) hx hb dX5_close_22 (by decide) ?_
    exact W.zret (v := 0) hx hb hr rfl (fun t ht hW => ⟨⟨0, uI μ 8 0 0 0, rfl, (by unfold cCloseM; rw [pNum_no hgn c_10]), iv_giveM ht hI⟩, hS.F ht⟩) hS.2.2 dX5_close_23
  · have c_10 := bp_n0.mp c_10
    obtain ⟨i, hi, ex, hix⟩ := pNum_ix hgn (by omega) c_10
    have hcx : x.toNatClampNeg = i + 1 := by rw [ex]; exact nI_clamp (by omega)
    have hvx : vp_in x 21 := by rw [ex]; exact vp_in_nI (by omega) (by decide)
    refine lv_aload_n hx hb dX5_close_13 rfl (lv_at hl 0 rfl) ?_
    refine sx_get (ci := 5) (C := RX5) (T := TX5) (N := 24) (v := .ref (al 9 6)) hx hb hts inX5 hown hK (c8_at hI) rfl 9 (by decide) (hts _ w_3_45) rfl rfl dX5_close_14 ?_
    refine lv_iload_n hx hb dX5_close_17 rfl (lv_at hl 1 rfl) ?_
    refine sx_zald hx hb hK (c9_6_at hI) 2 rfl hvx dX5_close_18 ?_
    rw [hcx]
    refine W.eq (g2 := F0 m 19 ls (.int (fI μ 9 6 (i + 1)) :: [])) rfl ?_
    refine lv_if_eq (tgt := 24) hx hb dX5_close_19 (by decide) (fun c_19 => ?_) (fun c_19 => ?_)
    · refine lv_aload_n hx hb dX5_close_24 rfl (lv_at hl 0 rfl) ?_
      refine sx_get (ci := 5) (C := RX5) (T := TX5) (N := 24) (v := .ref (al 9 6)) hx hb hts inX5 hown hK (c8_at hI) rfl 9 (by decide) (hts _ w_3_45) rfl rfl dX5_close_25 ?_
      refine lv_iload_n hx hb dX5_close_28 rfl (lv_at hl 1 rfl) ?_
      refine lv_iconst (v := 1) hx hb dX5_close_29 (by decide) ?_
      refine sx_zast hx hb hK hS (c9_6_at hI) (c9_6_lo hI) 2 rfl hvx dX5_close_30 (fun H locs hq => ?_)
      rw [(show vp_nar .boolean 1 = 1 from rfl)] at hq
      rw [hcx] at hq
      have hI := c9_6_uI (f := i + 1) (v := 1) hI hq
      have hS := hq.2.2.2
      refine lv_aload_n hx hb dX5_close_31 rfl (lv_at hl 0 rfl) ?_
      refine sx_get (ci := 5) (C := RX5) (T := TX5) (N := 24) (v := .ref (al 9 7)) hx hb hts inX5 hown hK (c8_at hI) rfl 10 (by decide) (hts _ w_3_46) rfl rfl dX5_close_32 ?_
      refine lv_iload_n hx hb dX5_close_35 rfl (lv_at hl 1 rfl) ?_
      refine lv_aload_n hx hb dX5_close_36 rfl (lv_at hl 0 rfl) ?_
      refine sx_get (ci := 5) (C := RX5) (T := TX5) (N := 24) (v := .int (fI μ 8 0 2)) hx hb hts inX5 hown hK (c8_at hI) rfl 2 (by decide) (hts _ w_3_38) rfl rfl dX5_close_37 ?_
      refine sx_iast hx hb hK hS (c9_7_at hI) (c9_7_lo hI) 0 rfl hvx dX5_close_40 (fun H locs hq => ?_)
      rw [hcx] at hq
      have hI := c9_7_uI (f := i + 1) (v := fI μ 8 0 2) hI hq
      have hS := hq.2.2.2
      refine lv_iconst (v := 1) hx hb dX5_close_41 (by decide) ?_
      exact W.zret (v := 1) hx hb hr rfl (fun t ht hW => ⟨⟨1, uI (uI (uI μ 8 0 0 0) 9 6 (i + 1) 1) 9 7 (i + 1) (fI μ 8 0 2), rfl, (by unfold cCloseM; rw [hix]; simp only [if_pos c_19]), iv_giveM ht hI⟩, hS.F ht⟩) hS.2.2 dX5_close_42
    · refine lv_iconst (v := 0) hx hb dX5_close_22 (by decide) ?_
      exact W.zret (v := 0) hx hb hr rfl (fun t ht hW => ⟨⟨0, uI μ 8 0 0 0, rfl, (by unfold cCloseM; rw [hix]; simp only [if_neg c_19]), iv_giveM ht hI⟩, hS.F ht⟩) hS.2.2 dX5_close_23

set_option maxHeartbeats 4000000 in
set_option maxRecDepth 100000 in
theorem m_fails (l : Launch) (D : va_G) (dA : Nat → ClassId) (sa : Nat → Nat) (lo : Nat) (al : Nat → Nat → Nat) (σ μ : CS) (x on : Int32) (hon : on = 0 ∨ on = 1) : Met l yX5_fails wsX5_fails ({ frames := 1, cells := 0, slots := 0, locals := 30 }) (va_Pc [.ref (al 8 0), .int x, .int on] (ivP D dA sa lo al σ μ)) (va_Qi (fun z9 u => (z9, u) = cFailsM μ x on) (ivM D dA lo al σ) (fun q => lo ≤ q)) 0 0 (fun q => lo ≤ q) := by
  refine Met.ofW (cc := cX5_fails) (maxL := 3) (ret := some .boolean) (by decide) rfl ?_
  intro p e s m args below meth c s₁ B hml hv
  obtain ⟨rfl, hI, hwd⟩ := hv
  have hx := B.exec
  have hb := B.bytes
  have hr := B.returns
  have hts : ∀ w ∈ WSall, w.before _ s = true := fun w h => atoms_spec (ws := wsX5_fails) B.pre w (List.mem_cons_of_mem _ h)
  have hown : s.vm.findClass RX5 = some m.cls := findClass_of_methodNamed B.named
  have hlocks := B.notSynchronized
  have hK := hwd.1
  have hS : va_S (fun q => lo ≤ q) s.heap s.heap [] := va_S.rf
  have hl := lv_entry ([.ref (al 8 0), .int x, .int on]) (n := 3) (Nat.le_of_ble_eq_true rfl)
  rw [lg_entry_eq]
  generalize (lg_sl ([.ref (al 8 0), .int x, .int on]) ++ List.replicate (3 - (lg_sl ([.ref (al 8 0), .int x, .int on])).length) Slot.unset).toArray = ls at hl ⊢
  have hl : lv_has ls 3 [(0, .ref (al 8 0)), (1, .int x), (2, .int on)] := hl
  refine lv_aload_n hx hb dX5_fails_0 rfl (lv_at hl 0 rfl) ?_
  refine lv_iconst (v := 0) hx hb dX5_fails_1 (by decide) ?_
  refine sx_put (ci := 5) (v := .int 0) (ty := .int) (C := RX5) (T := TX5) (N := 24) hx hb hts inX5 tyX5 okX5 nmX5 hown hK hS (c8_at hI) (c8_lo hI) rfl 0 (by decide) (hts _ w_3_36) rfl rfl (by decide +kernel) rfl rfl (Nat.le_of_ble_eq_true rfl) dX5_fails_2 (fun H locs hq => ?_)
  have hI := c8_uI (f := 0) (v := 0) hI rfl hq
  have hS := hq.2.2.2
  refine lv_iload_n hx hb dX5_fails_5 rfl (lv_at hl 1 rfl) ?_
  refine lv_i2l hx hb dX5_fails_6 rfl ?_
  refine lv_lconst (v := 0) hx hb dX5_fails_7 (by decide) ?_
  refine lv_ldc2 (v := 3) hx hb hown (hts _ w_3_176) dX5_fails_8 ?_
  refine vp_callSi (W.runS (As := [.long x.toInt64, .long 0, .long 3]) (rest := []) ⟨hx, hb, hml, hown, hts⟩ (m_in l D dA sa lo al σ (uI μ 8 0 0 0) x.toInt64 0 3) (cwS 3 hts (gdS w_3_118 w_3_119 w_1_3 w_3_120) rfl rfl rfl (by decide +kernel) ⟨Nat.le_of_ble_eq_true rfl, Nat.le_of_ble_eq_true rfl⟩) ⟨iv_bl, fun U hU hW => ⟨rfl, iv_use hI hwd hS hU hW⟩⟩ rfl rfl hl.1 rfl (lv_room (Nat.le_of_ble_eq_true rfl)) dX5_fails_11 ⟨Nat.le_of_ble_eq_true rfl, Nat.le_of_ble_eq_true rfl⟩) (fun r_11 e_11 => ?_)
  subst e_11
  refine lv_if_eq (tgt := 27) hx hb dX5_fails_14 (by decide) (fun c_14 => ?_) (fun c_14 => ?_)
  · have c_14 := bp_0.mp c_14
    refine lv_iconst (v := 0) hx hb dX5_fails_27 (by decide) ?_
    exact W.zret (v := 0) hx hb hr rfl (fun t ht hW => ⟨⟨0, uI μ 8 0 0 0, rfl, (by unfold cFailsM; rw [if_neg c_14]), iv_giveM ht hI⟩, hS.F ht⟩) hS.2.2 dX5_fails_28
  · have c_14 := bp_n0.mp c_14
    have hvx : vp_in x 4 := in3_vp c_14
    refine lv_aload_n hx hb dX5_fails_17 rfl (lv_at hl 0 rfl) ?_
    refine sx_get (ci := 5) (C := RX5) (T := TX5) (N := 24) (v := .ref (al 9 18)) hx hb hts inX5 hown hK (c8_at hI) rfl 22 (by decide) (hts _ w_3_58) rfl rfl dX5_fails_18 ?_
    refine lv_iload_n hx hb dX5_fails_21 rfl (lv_at hl 1 rfl) ?_
    refine sx_zald hx hb hK (c9_18_at hI) 2 rfl hvx dX5_fails_22 ?_
    refine W.eq (g2 := F0 m 23 ls (.int (fI μ 9 18 x.toNatClampNeg) :: [])) rfl ?_
    refine lv_iload_n hx hb dX5_fails_23 rfl (lv_at hl 2 rfl) ?_
    refine lv_icmp_ne (tgt := 29) hx hb dX5_fails_24 (by decide) (fun c_24 => ?_) (fun c_24 => ?_)
    · refine lv_aload_n hx hb dX5_fails_29 rfl (lv_at hl 0 rfl) ?_
      refine sx_get (ci := 5) (C := RX5) (T := TX5) (N := 24) (v := .ref (al 9 18)) hx hb hts inX5 hown hK (c8_at hI) rfl 22 (by decide) (hts _ w_3_58) rfl rfl dX5_fails_30 ?_
      refine lv_iload_n hx hb dX5_fails_33 rfl (lv_at hl 1 rfl) ?_
      refine lv_iload_n hx hb dX5_fails_34 rfl (lv_at hl 2 rfl) ?_
      refine sx_zast hx hb hK hS (c9_18_at hI) (c9_18_lo hI) 2 rfl hvx dX5_fails_35 (fun H locs hq => ?_)
      rw [(show vp_nar .boolean on = on by rcases hon with rfl | rfl <;> rfl)] at hq
      have hI := c9_18_uI (f := x.toNatClampNeg) (v := on) hI hq
      have hS := hq.2.2.2
      refine lv_iconst (v := 1) hx hb dX5_fails_36 (by decide) ?_
      exact W.zret (v := 1) hx hb hr rfl (fun t ht hW => ⟨⟨1, uI (uI μ 8 0 0 0) 9 18 x.toNatClampNeg on, rfl, (by unfold cFailsM; rw [if_pos c_14, if_neg c_24]), iv_giveM ht hI⟩, hS.F ht⟩) hS.2.2 dX5_fails_37
    · refine lv_iconst (v := 0) hx hb dX5_fails_27 (by decide) ?_
      exact W.zret (v := 0) hx hb hr rfl (fun t ht hW => ⟨⟨0, uI μ 8 0 0 0, rfl, (by unfold cFailsM; rw [if_pos c_14, if_pos c_24]), iv_giveM ht hI⟩, hS.F ht⟩) hS.2.2 dX5_fails_28

set_option maxHeartbeats 4000000 in
set_option maxRecDepth 100000 in
theorem m_interest (l : Launch) (D : va_G) (dA : Nat → ClassId) (sa : Nat → Nat) (lo : Nat) (al : Nat → Nat → Nat) (σ μ : CS) (x : Int32) (n r : Nat) (hw : WFm μ n r) : Met l yX5_interest wsX5_interest ({ frames := 1, cells := 0, slots := 0, locals := 30 }) (va_Pc [.ref (al 8 0), .int x] (ivP D dA sa lo al σ μ)) (va_Ql (fun z9 u => (z9, u) = cInterestM μ n x) (ivM D dA lo al σ) (fun q => lo ≤ q)) 0 0 (fun q => lo ≤ q) := by
  refine Met.ofW (cc := cX5_interest) (maxL := 2) (ret := some .long) (by decide) rfl ?_
  intro p e s m args below meth c s₁ B hml hv
  obtain ⟨rfl, hI, hwd⟩ := hv
  have hx := B.exec
  have hb := B.bytes
  have hr := B.returns
  have hts : ∀ w ∈ WSall, w.before _ s = true := fun w h => atoms_spec (ws := wsX5_interest) B.pre w (List.mem_cons_of_mem _ h)
  have hown : s.vm.findClass RX5 = some m.cls := findClass_of_methodNamed B.named
  have hlocks := B.notSynchronized
  have hK := hwd.1
  have hS : va_S (fun q => lo ≤ q) s.heap s.heap [] := va_S.rf
  have hl := lv_entry ([.ref (al 8 0), .int x]) (n := 2) (Nat.le_of_ble_eq_true rfl)
  rw [lg_entry_eq]
  generalize (lg_sl ([.ref (al 8 0), .int x]) ++ List.replicate (2 - (lg_sl ([.ref (al 8 0), .int x])).length) Slot.unset).toArray = ls at hl ⊢
  have hl : lv_has ls 2 [(0, .ref (al 8 0)), (1, .int x)] := hl
  obtain ⟨hn20, hr60, hgn, hrn, hor, hpt, hpr, hdn⟩ := id hw
  refine lv_aload_n hx hb dX5_interest_0 rfl (lv_at hl 0 rfl) ?_
  refine lv_iload_n hx hb dX5_interest_1 rfl (lv_at hl 1 rfl) ?_
  refine vp_callSi (W.runV (As := [.int x]) (rest := []) ⟨hx, hb, hml, hown, hts⟩ (m_isGuarantee l D dA sa lo al σ μ x) (cwV 1 hts (gdV w_3_138 w_3_140 wp_11 w_1_3 w_3_141) rfl rfl rfl (by decide +kernel) ⟨Nat.le_of_ble_eq_true rfl, Nat.le_of_ble_eq_true rfl⟩) ⟨iv_bl, sx_recv hK (c8_at hI) rfl, fun U hU hW => ⟨rfl, iv_use hI hwd hS hU hW⟩⟩ rfl rfl hl.1 rfl (lv_room (Nat.le_of_ble_eq_true rfl)) dX5_interest_2 ⟨Nat.le_of_ble_eq_true rfl, Nat.le_of_ble_eq_true rfl⟩) (fun r_2 e_2 => ?_)
  subst e_2
  refine lv_if_ne (tgt := 15) hx hb dX5_interest_5 (by decide) (fun c_5 => ?_) (fun c_5 => ?_)
  · have c_5 := bp_n0.mp c_5
    obtain ⟨i, hi, ex, hix⟩ := pNum_ix hgn (by omega) c_5
    have hcx : x.toNatClampNeg = i + 1 := by rw [ex]; exact nI_clamp (by omega)
    have hvx : vp_in x 21 := by rw [ex]; exact vp_in_nI (by omega) (by decide)
    refine lv_aload_n hx hb dX5_interest_15 rfl (lv_at hl 0 rfl) ?_
    refine lv_iconst (v := 0) hx hb dX5_interest_16 (by decide) ?_
    refine sx_put (ci := 5) (v := .int 0) (ty := .int) (C := RX5) (T := TX5) (N := 24) hx hb hts inX5 tyX5 okX5 nmX5 hown hK hS (c8_at hI) (c8_lo hI) rfl 0 (by decide) (hts _ w_3_36) rfl rfl (by decide +kernel) rfl rfl (Nat.le_of_ble_eq_true rfl) dX5_interest_17 (fun H locs hq => ?_)
    have hI := c8_uI (f := 0) (v := 0) hI rfl hq
    have hS := hq.2.2.2
    refine lv_aload_n hx hb dX5_interest_20 rfl (lv_at hl 0 rfl) ?_
    refine sx_get (ci := 5) (C := RX5) (T := TX5) (N := 24) (v := .ref (al 9 9)) hx hb hts inX5 hown hK (c8_at hI) rfl 12 (by decide) (hts _ w_3_48) rfl rfl dX5_interest_21 ?_
    refine lv_iload_n hx hb dX5_interest_24 rfl (lv_at hl 1 rfl) ?_
    refine sx_lald hx hb hK (c9_9_at hI) 1 rfl hvx dX5_interest_25 ?_
    rw [hcx]
    refine W.eq (g2 := F0 m 26 ls (.long (fL μ 9 9 (i + 1)) :: [])) rfl ?_
    refine lv_aload_n hx hb dX5_interest_26 rfl (lv_at hl 0 rfl) ?_
    refine lv_iload_n hx hb dX5_interest_27 rfl (lv_at hl 1 rfl) ?_
    refine W.eq (g2 := F0 m 28 ls (.int (nI (i + 1)) :: [.ref (al 8 0), .long (fL μ 9 9 (i + 1))])) (by rw [ex]) ?_
    refine vp_callSl (W.runV (As := [.int (nI (i + 1))]) (rest := [.long (fL μ 9 9 (i + 1))]) ⟨hx, hb, hml, hown, hts⟩ (m_running l D dA sa lo al σ (uI μ 8 0 0 0) (i + 1) (by omega)) (cwV 1 hts (gdV w_3_206 w_3_208 wp_22 w_1_3 w_3_209) rfl rfl rfl (by decide +kernel) ⟨Nat.le_of_ble_eq_true rfl, Nat.le_of_ble_eq_true rfl⟩) ⟨iv_bl, sx_recv hK (c8_at hI) rfl, fun U hU hW => ⟨rfl, iv_use hI hwd hS hU hW⟩⟩ rfl rfl hl.1 rfl (lv_room (Nat.le_of_ble_eq_true rfl)) dX5_interest_28 ⟨Nat.le_of_ble_eq_true rfl, Nat.le_of_ble_eq_true rfl⟩) (fun r_28 e_28 => ?_)
    subst e_28
    refine lv_ladd hx hb dX5_interest_31 ?_
    exact W.lret (v := (fL μ 9 9 (i + 1)) + (mRun (uI μ 8 0 0 0) (i + 1))) hx hb hr (fun t ht hW => ⟨⟨(fL μ 9 9 (i + 1)) + (mRun (uI μ 8 0 0 0) (i + 1)), uI μ 8 0 0 0, rfl, (by unfold cInterestM; rw [hix]), iv_giveM ht hI⟩, hS.F ht⟩) hS.2.2 dX5_interest_32
  · have c_5 := bp_0.mp c_5
    refine lv_aload_n hx hb dX5_interest_8 rfl (lv_at hl 0 rfl) ?_
    refine lv_iconst (v := 1) hx hb dX5_interest_9 (by decide) ?_
    refine va_calli (va_runV (As := [.int 1]) (rest := []) ⟨hx, hb, hml, hown, hts⟩ (m_refuse l D dA sa lo al σ μ 1) (cwV 1 hts (gdV w_3_126 w_3_128 wp_10 w_1_3 w_3_129) rfl rfl rfl (by decide +kernel) ⟨Nat.le_of_ble_eq_true rfl, Nat.le_of_ble_eq_true rfl⟩) ⟨iv_bl, sx_recv hK (c8_at hI) rfl, fun U hU hW => ⟨rfl, iv_use hI hwd hS hU hW⟩⟩ rfl rfl hl.1 rfl (lv_room (Nat.le_of_ble_eq_true rfl)) dX5_interest_10 ⟨Nat.le_of_ble_eq_true rfl, Nat.le_of_ble_eq_true rfl⟩) hS (fun q _ h => h) (fun q h => h) (fun r_10 u9 T9 H1 locs ht9 hvm9 e_10 hB9 hz9 hk9 hS => ?_)
    have hI := iv_takeM ht9 hB9
    clear hB9 hk9
    obtain ⟨rfl, rfl⟩ := e_10
    refine lv_i2l hx hb dX5_interest_13 rfl ?_
    exact W.lret (v := (0 : Int32).toInt64) hx hb hr (fun t ht hW => ⟨⟨(0 : Int32).toInt64, uI μ 8 0 0 1, rfl, (by unfold cInterestM; rw [pNum_no hgn c_5] <;> rfl), iv_giveM ht hI⟩, hS.F ht⟩) hS.2.2 dX5_interest_14

set_option maxHeartbeats 4000000 in
set_option maxRecDepth 100000 in
theorem m_end (l : Launch) (D : va_G) (dA : Nat → ClassId) (sa : Nat → Nat) (lo : Nat) (al : Nat → Nat → Nat) (σ μ : CS) (x how : Int32) (n r : Nat) (hw : WFm μ n r) : Met l yX5_end wsX5_end ({ frames := 1, cells := 0, slots := 0, locals := 30 }) (va_Pc [.ref (al 8 0), .int x, .int how] (ivP D dA sa lo al σ μ)) (va_Qi (fun z9 u => (z9, u) = cEndM μ r x how) (ivM D dA lo al σ) (fun q => lo ≤ q)) 0 0 (fun q => lo ≤ q) := by
  refine Met.ofW (cc := cX5_end) (maxL := 3) (ret := some .int) (by decide) rfl ?_
  intro p e s m args below meth c s₁ B hml hv
  obtain ⟨rfl, hI, hwd⟩ := hv
  have hx := B.exec
  have hb := B.bytes
  have hr := B.returns
  have hts : ∀ w ∈ WSall, w.before _ s = true := fun w h => atoms_spec (ws := wsX5_end) B.pre w (List.mem_cons_of_mem _ h)
  have hown : s.vm.findClass RX5 = some m.cls := findClass_of_methodNamed B.named
  have hlocks := B.notSynchronized
  have hK := hwd.1
  have hS : va_S (fun q => lo ≤ q) s.heap s.heap [] := va_S.rf
  have hl := lv_entry ([.ref (al 8 0), .int x, .int how]) (n := 3) (Nat.le_of_ble_eq_true rfl)
  rw [lg_entry_eq]
  generalize (lg_sl ([.ref (al 8 0), .int x, .int how]) ++ List.replicate (3 - (lg_sl ([.ref (al 8 0), .int x, .int how])).length) Slot.unset).toArray = ls at hl ⊢
  have hl : lv_has ls 3 [(0, .ref (al 8 0)), (1, .int x), (2, .int how)] := hl
  obtain ⟨hn20, hr60, hgn, hrn, hor, hpt, hpr, hdn⟩ := id hw
  refine lv_aload_n hx hb dX5_end_0 rfl (lv_at hl 0 rfl) ?_
  refine lv_iload_n hx hb dX5_end_1 rfl (lv_at hl 1 rfl) ?_
  refine vp_callSi (W.runV (As := [.int x]) (rest := []) ⟨hx, hb, hml, hown, hts⟩ (m_isReservation l D dA sa lo al σ μ x) (cwV 1 hts (gdV w_3_186 w_3_188 wp_19 w_1_3 w_3_189) rfl rfl rfl (by decide +kernel) ⟨Nat.le_of_ble_eq_true rfl, Nat.le_of_ble_eq_true rfl⟩) ⟨iv_bl, sx_recv hK (c8_at hI) rfl, fun U hU hW => ⟨rfl, iv_use hI hwd hS hU hW⟩⟩ rfl rfl hl.1 rfl (lv_room (Nat.le_of_ble_eq_true rfl)) dX5_end_2 ⟨Nat.le_of_ble_eq_true rfl, Nat.le_of_ble_eq_true rfl⟩) (fun r_2 e_2 => ?_)
  subst e_2
  refine lv_if_eq (tgt := 18) hx hb dX5_end_5 (by decide) (fun c_5 => ?_) (fun c_5 => ?_)
  · have c_5 := bp_0.mp c_5
    refine lv_aload_n hx hb dX5_end_18 rfl (lv_at hl 0 rfl) ?_
    refine lv_iconst (v := 1) hx hb dX5_end_19 (by decide) ?_
    refine va_calli (va_runV (As := [.int 1]) (rest := []) ⟨hx, hb, hml, hown, hts⟩ (m_refuse l D dA sa lo al σ μ 1) (cwV 1 hts (gdV w_3_126 w_3_128 wp_10 w_1_3 w_3_129) rfl rfl rfl (by decide +kernel) ⟨Nat.le_of_ble_eq_true rfl, Nat.le_of_ble_eq_true rfl⟩) ⟨iv_bl, sx_recv hK (c8_at hI) rfl, fun U hU hW => ⟨rfl, iv_use hI hwd hS hU hW⟩⟩ rfl rfl hl.1 rfl (lv_room (Nat.le_of_ble_eq_true rfl)) dX5_end_20 ⟨Nat.le_of_ble_eq_true rfl, Nat.le_of_ble_eq_true rfl⟩) hS (fun q _ h => h) (fun q h => h) (fun r_20 u9 T9 H1 locs ht9 hvm9 e_20 hB9 hz9 hk9 hS => ?_)
    have hI := iv_takeM ht9 hB9
    clear hB9 hk9
    obtain ⟨rfl, rfl⟩ := e_20
    exact W.iret (v := 0) hx hb hr (fun t ht hW => ⟨⟨0, uI μ 8 0 0 1, rfl, (by unfold cEndM; rw [pNum_no hrn c_5] <;> rfl), iv_giveM ht hI⟩, hS.F ht⟩) hS.2.2 dX5_end_23
  · have c_5 := bp_n0.mp c_5
    obtain ⟨i, hi, ex, hix⟩ := pNum_ix hrn (by omega) c_5
    have hcx : x.toNatClampNeg = i + 1 := by rw [ex]; exact nI_clamp (by omega)
    have hvx : vp_in x 61 := by rw [ex]; exact vp_in_nI (by omega) (by decide)
    refine lv_iload_n hx hb dX5_end_8 rfl (lv_at hl 2 rfl) ?_
    refine lv_iconst (v := 1) hx hb dX5_end_9 (by decide) ?_
    refine lv_icmp_lt (tgt := 18) hx hb dX5_end_10 (by decide) (fun c_10 => ?_) (fun c_10 => ?_)
    · refine lv_aload_n hx hb dX5_end_18 rfl (lv_at hl 0 rfl) ?_
      refine lv_iconst (v := 1) hx hb dX5_end_19 (by decide) ?_
      refine va_calli (va_runV (As := [.int 1]) (rest := []) ⟨hx, hb, hml, hown, hts⟩ (m_refuse l D dA sa lo al σ μ 1) (cwV 1 hts (gdV w_3_126 w_3_128 wp_10 w_1_3 w_3_129) rfl rfl rfl (by decide +kernel) ⟨Nat.le_of_ble_eq_true rfl, Nat.le_of_ble_eq_true rfl⟩) ⟨iv_bl, sx_recv hK (c8_at hI) rfl, fun U hU hW => ⟨rfl, iv_use hI hwd hS hU hW⟩⟩ rfl rfl hl.1 rfl (lv_room (Nat.le_of_ble_eq_true rfl)) dX5_end_20 ⟨Nat.le_of_ble_eq_true rfl, Nat.le_of_ble_eq_true rfl⟩) hS (fun q _ h => h) (fun q h => h) (fun r_20 u9 T9 H1 locs ht9 hvm9 e_20 hB9 hz9 hk9 hS => ?_)
      have hI := iv_takeM ht9 hB9
      clear hB9 hk9
      obtain ⟨rfl, rfl⟩ := e_20
      exact W.iret (v := 0) hx hb hr (fun t ht hW => ⟨⟨0, uI μ 8 0 0 1, rfl, (by unfold cEndM; rw [hix]; simp only [if_pos c_10] <;> rfl), iv_giveM ht hI⟩, hS.F ht⟩) hS.2.2 dX5_end_23
    · refine lv_iload_n hx hb dX5_end_13 rfl (lv_at hl 2 rfl) ?_
      refine lv_iconst (v := 2) hx hb dX5_end_14 (by decide) ?_
      refine lv_icmp_le (tgt := 24) hx hb dX5_end_15 (by decide) (fun c_15 => ?_) (fun c_15 => ?_)
      · refine lv_aload_n hx hb dX5_end_24 rfl (lv_at hl 0 rfl) ?_
        refine lv_iconst (v := 0) hx hb dX5_end_25 (by decide) ?_
        refine sx_put (ci := 5) (v := .int 0) (ty := .int) (C := RX5) (T := TX5) (N := 24) hx hb hts inX5 tyX5 okX5 nmX5 hown hK hS (c8_at hI) (c8_lo hI) rfl 0 (by decide) (hts _ w_3_36) rfl rfl (by decide +kernel) rfl rfl (Nat.le_of_ble_eq_true rfl) dX5_end_26 (fun H locs hq => ?_)
        have hI := c8_uI (f := 0) (v := 0) hI rfl hq
        have hS := hq.2.2.2
        refine lv_aload_n hx hb dX5_end_29 rfl (lv_at hl 0 rfl) ?_
        refine sx_get (ci := 5) (C := RX5) (T := TX5) (N := 24) (v := .ref (al 9 14)) hx hb hts inX5 hown hK (c8_at hI) rfl 18 (by decide) (hts _ w_3_54) rfl rfl dX5_end_30 ?_
        refine lv_iload_n hx hb dX5_end_33 rfl (lv_at hl 1 rfl) ?_
        refine sx_iald hx hb hK (c9_14_at hI) 0 rfl hvx dX5_end_34 ?_
        rw [hcx]
        refine W.eq (g2 := F0 m 35 ls (.int (fI μ 9 14 (i + 1)) :: [])) rfl ?_
        refine lv_if_le (tgt := 40) hx hb dX5_end_35 (by decide) (fun c_35 => ?_) (fun c_35 => ?_)
        · refine lv_aload_n hx hb dX5_end_40 rfl (lv_at hl 0 rfl) ?_
          refine sx_get (ci := 5) (C := RX5) (T := TX5) (N := 24) (v := .ref (al 9 14)) hx hb hts inX5 hown hK (c8_at hI) rfl 18 (by decide) (hts _ w_3_54) rfl rfl dX5_end_41 ?_
          refine lv_iload_n hx hb dX5_end_44 rfl (lv_at hl 1 rfl) ?_
          refine lv_iload_n hx hb dX5_end_45 rfl (lv_at hl 2 rfl) ?_
          refine sx_iast hx hb hK hS (c9_14_at hI) (c9_14_lo hI) 0 rfl hvx dX5_end_46 (fun H locs hq => ?_)
          rw [hcx] at hq
          have hI := c9_14_uI (f := i + 1) (v := how) hI hq
          have hS := hq.2.2.2
          refine lv_aload_n hx hb dX5_end_47 rfl (lv_at hl 0 rfl) ?_
          refine sx_get (ci := 5) (C := RX5) (T := TX5) (N := 24) (v := .ref (al 9 15)) hx hb hts inX5 hown hK (c8_at hI) rfl 19 (by decide) (hts _ w_3_55) rfl rfl dX5_end_48 ?_
          refine lv_iload_n hx hb dX5_end_51 rfl (lv_at hl 1 rfl) ?_
          refine lv_iconst (v := 0) hx hb dX5_end_52 (by decide) ?_
          refine sx_iast hx hb hK hS (c9_15_at hI) (c9_15_lo hI) 0 rfl hvx dX5_end_53 (fun H locs hq => ?_)
          rw [hcx] at hq
          have hI := c9_15_uI (f := i + 1) (v := 0) hI hq
          have hS := hq.2.2.2
          refine lv_iconst (v := 1) hx hb dX5_end_54 (by decide) ?_
          exact W.iret (v := 1) hx hb hr (fun t ht hW => ⟨⟨1, uI (uI (uI μ 8 0 0 0) 9 14 (i + 1) how) 9 15 (i + 1) 0, rfl, (by unfold cEndM; rw [hix]; simp only [if_neg c_10, if_pos c_15, if_pos c_35] <;> rfl), iv_giveM ht hI⟩, hS.F ht⟩) hS.2.2 dX5_end_55
        · refine lv_iconst (v := 0) hx hb dX5_end_38 (by decide) ?_
          exact W.iret (v := 0) hx hb hr (fun t ht hW => ⟨⟨0, uI μ 8 0 0 0, rfl, (by unfold cEndM; rw [hix]; simp only [if_neg c_10, if_pos c_15, if_neg c_35] <;> rfl), iv_giveM ht hI⟩, hS.F ht⟩) hS.2.2 dX5_end_39
      · refine lv_aload_n hx hb dX5_end_18 rfl (lv_at hl 0 rfl) ?_
        refine lv_iconst (v := 1) hx hb dX5_end_19 (by decide) ?_
        refine va_calli (va_runV (As := [.int 1]) (rest := []) ⟨hx, hb, hml, hown, hts⟩ (m_refuse l D dA sa lo al σ μ 1) (cwV 1 hts (gdV w_3_126 w_3_128 wp_10 w_1_3 w_3_129) rfl rfl rfl (by decide +kernel) ⟨Nat.le_of_ble_eq_true rfl, Nat.le_of_ble_eq_true rfl⟩) ⟨iv_bl, sx_recv hK (c8_at hI) rfl, fun U hU hW => ⟨rfl, iv_use hI hwd hS hU hW⟩⟩ rfl rfl hl.1 rfl (lv_room (Nat.le_of_ble_eq_true rfl)) dX5_end_20 ⟨Nat.le_of_ble_eq_true rfl, Nat.le_of_ble_eq_true rfl⟩) hS (fun q _ h => h) (fun q h => h) (fun r_20 u9 T9 H1 locs ht9 hvm9 e_20 hB9 hz9 hk9 hS => ?_)
        have hI := iv_takeM ht9 hB9
        clear hB9 hk9
        obtain ⟨rfl, rfl⟩ := e_20
        exact W.iret (v := 0) hx hb hr (fun t ht hW => ⟨⟨0, uI μ 8 0 0 1, rfl, (by unfold cEndM; rw [hix]; simp only [if_neg c_10, if_neg c_15] <;> rfl), iv_giveM ht hI⟩, hS.F ht⟩) hS.2.2 dX5_end_23

set_option maxHeartbeats 4000000 in
set_option maxRecDepth 100000 in
theorem m_count (l : Launch) (D : va_G) (dA : Nat → ClassId) (sa : Nat → Nat) (lo : Nat) (al : Nat → Nat → Nat) (σ μ : CS) (x : Int32) (n r : Nat) (hw : WFm μ n r) : Met l yX5_count wsX5_count ({ frames := 0, cells := 0, slots := 0, locals := 0 }) (va_Pc [.ref (al 8 0), .int x] (ivP D dA sa lo al σ μ)) (va_Qi (fun z9 u => (z9, u) = (cCountM μ r x, uI μ 8 0 0 0)) (ivM D dA lo al σ) (fun q => lo ≤ q)) 0 0 (fun q => lo ≤ q) := by
  refine Met.ofW (cc := cX5_count) (maxL := 4) (ret := some .int) (by decide) rfl ?_
  intro p e s m args below meth c s₁ B hml hv
  obtain ⟨rfl, hI, hwd⟩ := hv
  have hx := B.exec
  have hb := B.bytes
  have hr := B.returns
  have hts : ∀ w ∈ WSall, w.before _ s = true := fun w h => atoms_spec (ws := wsX5_count) B.pre w (List.mem_cons_of_mem _ h)
  have hown : s.vm.findClass RX5 = some m.cls := findClass_of_methodNamed B.named
  have hlocks := B.notSynchronized
  have hK := hwd.1
  have hS : va_S (fun q => lo ≤ q) s.heap s.heap [] := va_S.rf
  have hl := lv_entry ([.ref (al 8 0), .int x]) (n := 4) (Nat.le_of_ble_eq_true rfl)
  rw [lg_entry_eq]
  generalize (lg_sl ([.ref (al 8 0), .int x]) ++ List.replicate (4 - (lg_sl ([.ref (al 8 0), .int x])).length) Slot.unset).toArray = ls at hl ⊢
  have hl : lv_has ls 4 [(0, .ref (al 8 0)), (1, .int x)] := hl
  obtain ⟨hn20, hr60, hgn, hrn, hor, hpt, hpr, hdn⟩ := id hw
  refine lv_aload_n hx hb dX5_count_0 rfl (lv_at hl 0 rfl) ?_
  refine lv_iconst (v := 0) hx hb dX5_count_1 (by decide) ?_
  refine sx_put (ci := 5) (v := .int 0) (ty := .int) (C := RX5) (T := TX5) (N := 24) hx hb hts inX5 tyX5 okX5 nmX5 hown hK hS (c8_at hI) (c8_lo hI) rfl 0 (by decide) (hts _ w_3_36) rfl rfl (by decide +kernel) rfl rfl (Nat.le_of_ble_eq_true rfl) dX5_count_2 (fun H locs hq => ?_)
  have hI := c8_uI (f := 0) (v := 0) hI rfl hq
  have hS := hq.2.2.2
  refine lv_iconst (v := 0) hx hb dX5_count_5 (by decide) ?_
  refine lv_istore_n (lv' := [(2, .int 0), (0, .ref (al 8 0)), (1, .int x)]) hx hb dX5_count_6 rfl hl (by decide) rfl (fun ls hl => ?_)
  refine lv_iconst (v := 1) hx hb dX5_count_7 (by decide) ?_
  refine lv_istore_n (lv' := [(3, .int 1), (2, .int 0), (0, .ref (al 8 0)), (1, .int x)]) hx hb dX5_count_8 rfl hl (by decide) rfl (fun ls hl => ?_)
  refine w_loopP (hd := 9) (stk := []) (X := Nat) (fun j => r - j) (fun j ls => (j ≤ r) ∧ lv_has ls 4 [(3, .int (nI (j + 1))), (2, .int (mLive μ j)), (1, .int x), (0, .ref (al 8 0))]) (fun j ls hk ih_9 => ?_) 0 ls ⟨Nat.zero_le _, (by have h9 := lv_sub hl [0, 1, 3, 2] rfl; rw [show (1 : Int32) = nI (0 + 1) from rfl] at h9; exact h9)⟩
  obtain ⟨hk, hl⟩ := hk
  have hl : lv_has ls 4 [(3, .int (nI (j + 1))), (2, .int (mLive μ j)), (1, .int x), (0, .ref (al 8 0))] := hl
  refine lv_iload_n hx hb dX5_count_9 rfl (lv_at hl 0 rfl) ?_
  refine lv_aload_n hx hb dX5_count_10 rfl (lv_at hl 3 rfl) ?_
  refine sx_get (ci := 5) (C := RX5) (T := TX5) (N := 24) (v := .int (fI μ 8 0 15)) hx hb hts inX5 hown hK (c8_at hI) rfl 15 (by decide) (hts _ w_3_51) rfl rfl dX5_count_11 ?_
  refine lv_icmp_gt (tgt := 40) hx hb dX5_count_14 (by decide) (fun c_14 => ?_) (fun c_14 => ?_)
  · have hj9 := gt_end hrn c_14 hk (by omega)
    subst hj9
    refine lv_iload_n hx hb dX5_count_40 rfl (lv_at hl 2 rfl) ?_
    refine lv_bipush (v := 10) hx hb dX5_count_41 (by decide) ?_
    refine lv_icmp_lt (tgt := 66) hx hb dX5_count_43 (by decide) (fun c_43 => ?_) (fun c_43 => ?_)
    · refine lv_iload_n hx hb dX5_count_66 rfl (lv_at hl 2 rfl) ?_
      by_cases c_67_0 : x = 0
      · refine lv_tableIn (tgt := 96) hx hb dX5_count_67 (by rw [c_67_0]; decide) (by rw [c_67_0]; decide) (by rw [c_67_0]; rfl) (by decide) ?_
        refine lv_aload_n hx hb dX5_count_96 rfl (lv_at hl 3 rfl) ?_
        refine sx_get (ci := 5) (C := RX5) (T := TX5) (N := 24) (v := .int (fI μ 8 0 1)) hx hb hts inX5 hown hK (c8_at hI) rfl 1 (by decide) (hts _ w_3_37) rfl rfl dX5_count_97 ?_
        exact W.iret (v := fI μ 8 0 1) hx hb hr (fun t ht hW => ⟨⟨fI μ 8 0 1, uI μ 8 0 0 0, rfl, (by unfold cCountM; simp only [if_pos c_43, if_pos c_67_0] <;> rfl), iv_giveM ht hI⟩, hS.F ht⟩) hS.2.2 dX5_count_100
      by_cases c_67_1 : x = 1
      · refine lv_tableIn (tgt := 101) hx hb dX5_count_67 (by rw [c_67_1]; decide) (by rw [c_67_1]; decide) (by rw [c_67_1]; rfl) (by decide) ?_
        refine lv_aload_n hx hb dX5_count_101 rfl (lv_at hl 3 rfl) ?_
        refine sx_get (ci := 5) (C := RX5) (T := TX5) (N := 24) (v := .int (fI μ 8 0 15)) hx hb hts inX5 hown hK (c8_at hI) rfl 15 (by decide) (hts _ w_3_51) rfl rfl dX5_count_102 ?_
        exact W.iret (v := fI μ 8 0 15) hx hb hr (fun t ht hW => ⟨⟨fI μ 8 0 15, uI μ 8 0 0 0, rfl, (by unfold cCountM; simp only [if_pos c_43, if_neg c_67_0, if_pos c_67_1] <;> rfl), iv_giveM ht hI⟩, hS.F ht⟩) hS.2.2 dX5_count_105
      by_cases c_67_2 : x = 2
      · refine lv_tableIn (tgt := 106) hx hb dX5_count_67 (by rw [c_67_2]; decide) (by rw [c_67_2]; decide) (by rw [c_67_2]; rfl) (by decide) ?_
        refine lv_iload_n hx hb dX5_count_106 rfl (lv_at hl 1 rfl) ?_
        exact W.iret (v := mLive μ j) hx hb hr (fun t ht hW => ⟨⟨mLive μ j, uI μ 8 0 0 0, rfl, (by unfold cCountM; simp only [if_pos c_43, if_neg c_67_0, if_neg c_67_1, if_pos c_67_2] <;> rfl), iv_giveM ht hI⟩, hS.F ht⟩) hS.2.2 dX5_count_107
      by_cases c_67_3 : x = 3
      · refine lv_tableIn (tgt := 108) hx hb dX5_count_67 (by rw [c_67_3]; decide) (by rw [c_67_3]; decide) (by rw [c_67_3]; rfl) (by decide) ?_
        refine lv_aload_n hx hb dX5_count_108 rfl (lv_at hl 3 rfl) ?_
        refine sx_get (ci := 5) (C := RX5) (T := TX5) (N := 24) (v := .int (fI μ 8 0 2)) hx hb hts inX5 hown hK (c8_at hI) rfl 2 (by decide) (hts _ w_3_38) rfl rfl dX5_count_109 ?_
        exact W.iret (v := fI μ 8 0 2) hx hb hr (fun t ht hW => ⟨⟨fI μ 8 0 2, uI μ 8 0 0 0, rfl, (by unfold cCountM; simp only [if_pos c_43, if_neg c_67_0, if_neg c_67_1, if_neg c_67_2, if_pos c_67_3] <;> rfl), iv_giveM ht hI⟩, hS.F ht⟩) hS.2.2 dX5_count_112
      refine lv_tableOut (tgt := 113) hx hb dX5_count_67 (sw_out3 c_67_0 c_67_1 c_67_2 c_67_3) (by decide) ?_
      refine lv_iconst (v := (-1)) hx hb dX5_count_113 (by decide) ?_
      exact W.iret (v := (-1)) hx hb hr (fun t ht hW => ⟨⟨(-1), uI μ 8 0 0 0, rfl, (by unfold cCountM; simp only [if_pos c_43, if_neg c_67_0, if_neg c_67_1, if_neg c_67_2, if_neg c_67_3] <;> rfl), iv_giveM ht hI⟩, hS.F ht⟩) hS.2.2 dX5_count_114
    · refine lv_iload_n hx hb dX5_count_46 rfl (lv_at hl 2 rfl) ?_
      refine lv_bipush (v := 14) hx hb dX5_count_47 (by decide) ?_
      refine lv_icmp_ge (tgt := 64) hx hb dX5_count_49 (by decide) (fun c_49 => ?_) (fun c_49 => ?_)
      · refine lv_iconst (v := (-1)) hx hb dX5_count_64 (by decide) ?_
        exact W.iret (v := (-1)) hx hb hr (fun t ht hW => ⟨⟨(-1), uI μ 8 0 0 0, rfl, (by unfold cCountM; simp only [if_neg c_43, if_pos c_49] <;> rfl), iv_giveM ht hI⟩, hS.F ht⟩) hS.2.2 dX5_count_65
      · have hvx : vp_in (x - 10) 4 := cnt_vp c_43 c_49
        refine lv_aload_n hx hb dX5_count_52 rfl (lv_at hl 3 rfl) ?_
        refine sx_get (ci := 5) (C := RX5) (T := TX5) (N := 24) (v := .ref (al 9 19)) hx hb hts inX5 hown hK (c8_at hI) rfl 23 (by decide) (hts _ w_3_59) rfl rfl dX5_count_53 ?_
        refine lv_iload_n hx hb dX5_count_56 rfl (lv_at hl 2 rfl) ?_
        refine lv_bipush (v := 10) hx hb dX5_count_57 (by decide) ?_
        refine lv_isub hx hb dX5_count_59 ?_
        refine sx_iald hx hb hK (c9_19_at hI) 0 rfl hvx dX5_count_60 ?_
        refine W.eq (g2 := F0 m 61 ls (.int (fI μ 9 19 (x - 10).toNatClampNeg) :: [])) rfl ?_
        refine lv_goto (tgt := 65) hx hb dX5_count_61 (by decide) ?_
        exact W.iret (v := fI μ 9 19 (x - 10).toNatClampNeg) hx hb hr (fun t ht hW => ⟨⟨fI μ 9 19 (x - 10).toNatClampNeg, uI μ 8 0 0 0, rfl, (by unfold cCountM; simp only [if_neg c_43, if_neg c_49] <;> rfl), iv_giveM ht hI⟩, hS.F ht⟩) hS.2.2 dX5_count_65
  · have hjr : j < r := gt_lt hrn c_14 (by omega) (by omega)
    have hcj : (nI (j + 1)).toNatClampNeg = j + 1 := nI_clamp (by omega)
    refine lv_iload_n hx hb dX5_count_17 rfl (lv_at hl 1 rfl) ?_
    refine lv_aload_n hx hb dX5_count_18 rfl (lv_at hl 3 rfl) ?_
    refine sx_get (ci := 5) (C := RX5) (T := TX5) (N := 24) (v := .ref (al 9 14)) hx hb hts inX5 hown hK (c8_at hI) rfl 18 (by decide) (hts _ w_3_54) rfl rfl dX5_count_19 ?_
    refine lv_iload_n hx hb dX5_count_22 rfl (lv_at hl 0 rfl) ?_
    refine sx_iald hx hb hK (c9_14_at hI) 0 rfl (vp_in_nI (show j + 1 < 61 by omega) (by decide)) dX5_count_23 ?_
    rw [hcj]
    refine W.eq (g2 := F0 m 24 ls (.int (fI μ 9 14 (j + 1)) :: [.int (mLive μ j)])) rfl ?_
    refine lv_if_ne (tgt := 31) hx hb dX5_count_24 (by decide) (fun c_24 => ?_) (fun c_24 => ?_)
    · refine lv_iconst (v := 0) hx hb dX5_count_31 (by decide) ?_
      refine lv_iadd hx hb dX5_count_32 ?_
      refine W.eq (g2 := F0 m 33 ls (.int (mLive μ (j + 1)) :: [])) (by rw [mLive, if_neg c_24]) ?_
      refine lv_istore_n (lv' := [(2, .int (mLive μ (j + 1))), (3, .int (nI (j + 1))), (1, .int x), (0, .ref (al 8 0))]) hx hb dX5_count_33 rfl hl (by decide) rfl (fun ls hl => ?_)
      refine lv_iinc (v := (nI (j + 1)) + 1) (lv' := [(3, .int ((nI (j + 1)) + 1)), (2, .int (mLive μ (j + 1))), (1, .int x), (0, .ref (al 8 0))]) hx hb dX5_count_34 hl (k := 1) rfl rfl (by decide) rfl (fun ls hl => ?_)
      refine lv_goto (tgt := 9) hx hb dX5_count_37 (by decide) ?_
      exact ih_9 (j + 1) ls (by omega) ⟨hjr, (by have h9 := lv_sub hl [0, 1, 2, 3] rfl; rw [nI_1] at h9; exact h9)⟩
    · refine lv_iconst (v := 1) hx hb dX5_count_27 (by decide) ?_
      refine lv_goto (tgt := 32) hx hb dX5_count_28 (by decide) ?_
      refine lv_iadd hx hb dX5_count_32 ?_
      refine W.eq (g2 := F0 m 33 ls (.int (mLive μ (j + 1)) :: [])) (by rw [mLive, if_pos c_24]) ?_
      refine lv_istore_n (lv' := [(2, .int (mLive μ (j + 1))), (3, .int (nI (j + 1))), (1, .int x), (0, .ref (al 8 0))]) hx hb dX5_count_33 rfl hl (by decide) rfl (fun ls hl => ?_)
      refine lv_iinc (v := (nI (j + 1)) + 1) (lv' := [(3, .int ((nI (j + 1)) + 1)), (2, .int (mLive μ (j + 1))), (1, .int x), (0, .ref (al 8 0))]) hx hb dX5_count_34 hl (k := 1) rfl rfl (by decide) rfl (fun ls hl => ?_)
      refine lv_goto (tgt := 9) hx hb dX5_count_37 (by decide) ?_
      exact ih_9 (j + 1) ls (by omega) ⟨hjr, (by have h9 := lv_sub hl [0, 1, 2, 3] rfl; rw [nI_1] at h9; exact h9)⟩

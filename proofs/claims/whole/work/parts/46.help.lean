set_option maxHeartbeats 4000000 in
set_option maxRecDepth 100000 in
theorem h_guarantee (l : Launch) (D : va_G) (dA : Nat → ClassId) (sa : Nat → Nat) (lo : Nat) (al : Nat → Nat → Nat) (σ μ : CS) (hlt : l.stackTraces = false) (h : Int32) (a : Int64) (ua d one rt : Int32) (hon : one = 0 ∨ one = 1) (n r : Nat) (hw : WFc σ n r) (hrg : RG σ) (L : Nat → List Nat) (hL : ∀ h, h < 8 → Ch σ (fR σ 7 1 h) (L h)) : Met l yL_guarantee wsL_guarantee ({ frames := 7, cells := 3, slots := 17, locals := 200 }) (va_Pc [.ref (al 0 0), .int h, .long a, .int ua, .int d, .int one, .int rt, .ref (al 10 0)] (ivN D dA sa lo al σ μ)) (va_Qi (hP32 al μ (cGu σ n L h a ua d one rt)) (ivH D dA lo) (fun q => lo ≤ q)) 3 17 (fun q => lo ≤ q) := by
  refine va_MetW (cc := cL_guarantee) (maxL := 10) (ret := some .int) (hh := [(0, 19, 22, 13), (0, 19, 26, 15)]) (by decide) rfl ?_
  intro p e s m args below meth c s₁ B hml hv
  obtain ⟨rfl, hI, hwd, hnc⟩ := hv
  have hx := B.exec
  have hb := B.bytes
  have hr := B.returns
  have hts : ∀ w ∈ WSall, w.before _ s = true := fun w h => atoms_spec (ws := wsL_guarantee) B.pre w (List.mem_cons_of_mem _ h)
  have hT : c.exceptionTable.toList = tableOf [(0, 19, 22, 13), (0, 19, 26, 15)] := vx_table (x := yL_guarantee) B (atoms_spec (ws := wsL_guarantee) B.pre _ List.mem_cons_self)
  have hown : s.vm.findClass RL = some m.cls := findClass_of_methodNamed B.named
  have hlocks := B.notSynchronized
  have hK := hwd.1
  have hS : va_S (fun q => lo ≤ q) s.heap s.heap [] := va_S.rf
  have hl := lv_entry ([.ref (al 0 0), .int h, .long a, .int ua, .int d, .int one, .int rt, .ref (al 10 0)]) (n := 10) (Nat.le_of_ble_eq_true rfl)
  rw [lg_entry_eq]
  generalize (lg_sl ([.ref (al 0 0), .int h, .long a, .int ua, .int d, .int one, .int rt, .ref (al 10 0)]) ++ List.replicate (10 - (lg_sl ([.ref (al 0 0), .int h, .long a, .int ua, .int d, .int one, .int rt, .ref (al 10 0)])).length) Slot.unset).toArray = ls at hl ⊢
  have hl : lv_has ls 10 [(0, .ref (al 0 0)), (1, .int h), (2, .long a), (4, .int ua), (5, .int d), (6, .int one), (7, .int rt), (8, .ref (al 10 0))] := hl
  refine lv_aload hx hb dL_guarantee_0 (lv_at hl 7 rfl) ?_
  refine lv_iconst (v := 0) hx hb dL_guarantee_2 (by decide) ?_
  refine lv_aload_n hx hb dL_guarantee_3 rfl (lv_at hl 0 rfl) ?_
  refine lv_iload_n hx hb dL_guarantee_4 rfl (lv_at hl 1 rfl) ?_
  refine lv_lload_n hx hb dL_guarantee_5 rfl (lv_at hl 2 rfl) ?_
  refine lv_iload hx hb dL_guarantee_6 (lv_at hl 3 rfl) ?_
  refine lv_iload hx hb dL_guarantee_8 (lv_at hl 4 rfl) ?_
  refine lv_iload hx hb dL_guarantee_10 (lv_at hl 5 rfl) ?_
  refine lv_iload hx hb dL_guarantee_12 (lv_at hl 6 rfl) ?_
  refine vx_calli (vx_runV (As := [.int h, .long a, .int ua, .int d, .int one, .int rt]) (rest := [.int 0, .ref (al 10 0)]) ⟨hx, hb, hml, hown, hts⟩ (t_guarantee l D dA sa lo al σ μ hlt h a ua d one rt hon n r hw hrg L hL) (cwV 6 hts (gdV w_1_180 w_1_181 w_1_182 w_1_1 w_1_183) rfl rfl rfl (by decide +kernel) ⟨Nat.le_of_ble_eq_true rfl, Nat.le_of_ble_eq_true rfl⟩) ⟨iv_bl, sx_recv hK (c0_at hI) rfl, fun U hU hW => ⟨rfl, iv_use hI hwd hS hU hW⟩⟩ rfl rfl hl.1 rfl (lv_room (Nat.le_of_ble_eq_true rfl)) dL_guarantee_14 ⟨Nat.le_of_ble_eq_true rfl, Nat.le_of_ble_eq_true rfl⟩) hS (fun q _ h => h) (fun q h => h) (fun q _ h => h) (fun E ce q9 u9 T9 H1 locs ht9 hvm9 hu9 hB9 hz9 hk9 hS hce hcv hcl => ?_) (fun r9 u9 T9 H1 locs ht9 hvm9 e9 hB9 hz9 hk9 hS => ?_)
  · obtain ⟨hE, hB8⟩ := hB9
    subst hu9
    have hI := iv_take ht9 hB8
    rcases hE with ⟨rfl, hc9⟩ | ⟨rfl, hc9⟩
    · refine vx_catch (name := "java/lang/IllegalArgumentException") hown [] ⟨0, 19, 22, 13⟩ [⟨0, 19, 26, 15⟩] hT (fun z hz => by cases hz) (by decide) (by decide) (hts _ w_1_178) (va_Nw.use rfl (wd_n hwd (.castable "java/lang/IllegalArgumentException" "java/lang/IllegalArgumentException") (List.mem_of_getElem? (i := 6) rfl))) hce hcv hcl ?_
      refine W.eq (g2 := F0 m 22 ls [.ref q9]) rfl ?_
      refine lv_astore (lv' := [(9, .ref q9), (0, .ref (al 0 0)), (1, .int h), (2, .long a), (4, .int ua), (5, .int d), (6, .int one), (7, .int rt), (8, .ref (al 10 0))]) hx hb dL_guarantee_22 hl (by decide) rfl (fun ls hl => ?_)
      refine lv_iconst (v := 1) hx hb dL_guarantee_24 (by decide) ?_
      refine W.widen (k := 3) (n := 17) (Nat.le_of_ble_eq_true rfl) (Nat.le_of_ble_eq_true rfl) ?_
      exact W.iret (v := 1) hx hb hr (fun t ht hW => ⟨⟨1, (_, μ, al), rfl, ⟨hc9.symm, (x_cGu (by rw [hc9]; decide)).symm, (by rw [hc9]; rfl), fun _ _ _ => rfl⟩, iv_giveH ht hI⟩, hS.F ht⟩) hS.2.2 dL_guarantee_25
    · refine vx_catch (name := "java/lang/IllegalStateException") hown [⟨0, 19, 22, 13⟩] ⟨0, 19, 26, 15⟩ [] hT (fun z hz => by cases List.mem_singleton.mp hz; exact Or.inr ⟨by decide, "java/lang/IllegalArgumentException", hts _ w_1_178, hnc⟩) (by decide) (by decide) (hts _ w_1_179) (va_Nw.use rfl (wd_n hwd (.castable "java/lang/IllegalStateException" "java/lang/IllegalStateException") (List.mem_of_getElem? (i := 10) rfl))) hce hcv hcl ?_
      refine W.eq (g2 := F0 m 26 ls [.ref q9]) rfl ?_
      refine lv_astore (lv' := [(9, .ref q9), (0, .ref (al 0 0)), (1, .int h), (2, .long a), (4, .int ua), (5, .int d), (6, .int one), (7, .int rt), (8, .ref (al 10 0))]) hx hb dL_guarantee_26 hl (by decide) rfl (fun ls hl => ?_)
      refine lv_iconst (v := 2) hx hb dL_guarantee_28 (by decide) ?_
      refine W.widen (k := 3) (n := 17) (Nat.le_of_ble_eq_true rfl) (Nat.le_of_ble_eq_true rfl) ?_
      exact W.iret (v := 2) hx hb hr (fun t ht hW => ⟨⟨2, (_, μ, al), rfl, ⟨hc9.symm, (x_cGu (by rw [hc9]; decide)).symm, (by rw [hc9]; rfl), fun _ _ _ => rfl⟩, iv_giveH ht hI⟩, hS.F ht⟩) hS.2.2 dL_guarantee_29
  · obtain ⟨u8, al8⟩ := u9
    obtain ⟨e9, hag⟩ := e9
    have hI := iv_takeA ht9 hB9
    obtain ⟨al, hag, hI⟩ : ∃ al9, agree al al9 ∧ Inv D dA lo al9 u8 μ H1 := ⟨al8, hag, hI⟩
    have e10 := hag 10 0 (Or.inr (by decide))
    refine W.eq (g2 := F0 m 17 ls [.int r9, .int 0, .ref (al 10 0)]) (by rw [e10]) ?_
    refine lv_i2l hx hb dL_guarantee_17 rfl ?_
    refine sx_last hx hb hK hS (c10_at hI) (c10_lo hI) 1 rfl (show vp_in 0 1 from vp_in_nI (n := 0) (by decide) (by decide)) dL_guarantee_18 (fun H locs hq => ?_)
    rw [show (0 : Int32).toNatClampNeg = 0 from rfl] at hq
    have hI := c10_uL (f := 0) (v := r9.toInt64) hI hq
    have hS := hq.2.2.2
    refine lv_goto (tgt := 30) hx hb dL_guarantee_19 (by decide) ?_
    refine lv_iconst (v := 0) hx hb dL_guarantee_30 (by decide) ?_
    refine W.widen (k := 3) (n := 17) (Nat.le_of_ble_eq_true rfl) (Nat.le_of_ble_eq_true rfl) ?_
    exact W.iret (v := 0) hx hb hr (fun t ht hW => ⟨⟨0, (u8, uL μ 10 0 0 r9.toInt64, al), rfl, ⟨(by rw [e9]), (by rw [e9]), (by rw [e9]; rfl), hag⟩, iv_giveH ht hI⟩, hS.F ht⟩) hS.2.2 dL_guarantee_31

set_option maxHeartbeats 4000000 in
set_option maxRecDepth 100000 in
theorem h_reserve (l : Launch) (D : va_G) (dA : Nat → ClassId) (sa : Nat → Nat) (lo : Nat) (al : Nat → Nat → Nat) (σ μ : CS) (hlt : l.stackTraces = false) (d h : Int32) (x : Int64) (n r : Nat) (hw : WFc σ n r) (hrg : RG σ) (L : Nat → List Nat) (hL : ∀ h, h < 8 → Ch σ (fR σ 7 1 h) (L h)) : Met l yL_reserve wsL_reserve ({ frames := 7, cells := 3, slots := 14, locals := 220 }) (va_Pc [.ref (al 0 0), .int d, .int h, .long x, .ref (al 10 0)] (ivN D dA sa lo al σ μ)) (va_Qi (hP32 al μ (cRes σ r L d h x)) (ivH D dA lo) (fun q => lo ≤ q)) 3 14 (fun q => lo ≤ q) := by
  refine va_MetW (cc := cL_reserve) (maxL := 7) (ret := some .int) (hh := [(0, 12, 15, 13), (0, 12, 19, 15)]) (by decide) rfl ?_
  intro p e s m args below meth c s₁ B hml hv
  obtain ⟨rfl, hI, hwd, hnc⟩ := hv
  have hx := B.exec
  have hb := B.bytes
  have hr := B.returns
  have hts : ∀ w ∈ WSall, w.before _ s = true := fun w h => atoms_spec (ws := wsL_reserve) B.pre w (List.mem_cons_of_mem _ h)
  have hT : c.exceptionTable.toList = tableOf [(0, 12, 15, 13), (0, 12, 19, 15)] := vx_table (x := yL_reserve) B (atoms_spec (ws := wsL_reserve) B.pre _ List.mem_cons_self)
  have hown : s.vm.findClass RL = some m.cls := findClass_of_methodNamed B.named
  have hlocks := B.notSynchronized
  have hK := hwd.1
  have hS : va_S (fun q => lo ≤ q) s.heap s.heap [] := va_S.rf
  have hl := lv_entry ([.ref (al 0 0), .int d, .int h, .long x, .ref (al 10 0)]) (n := 7) (Nat.le_of_ble_eq_true rfl)
  rw [lg_entry_eq]
  generalize (lg_sl ([.ref (al 0 0), .int d, .int h, .long x, .ref (al 10 0)]) ++ List.replicate (7 - (lg_sl ([.ref (al 0 0), .int d, .int h, .long x, .ref (al 10 0)])).length) Slot.unset).toArray = ls at hl ⊢
  have hl : lv_has ls 7 [(0, .ref (al 0 0)), (1, .int d), (2, .int h), (3, .long x), (5, .ref (al 10 0))] := hl
  refine lv_aload hx hb dL_reserve_0 (lv_at hl 4 rfl) ?_
  refine lv_iconst (v := 0) hx hb dL_reserve_2 (by decide) ?_
  refine lv_aload_n hx hb dL_reserve_3 rfl (lv_at hl 0 rfl) ?_
  refine lv_iload_n hx hb dL_reserve_4 rfl (lv_at hl 1 rfl) ?_
  refine lv_iload_n hx hb dL_reserve_5 rfl (lv_at hl 2 rfl) ?_
  refine lv_lload_n hx hb dL_reserve_6 rfl (lv_at hl 3 rfl) ?_
  refine vx_calli (vx_runV (As := [.int d, .int h, .long x]) (rest := [.int 0, .ref (al 10 0)]) ⟨hx, hb, hml, hown, hts⟩ (t_reserve l D dA sa lo al σ μ hlt d h x n r hw hrg L hL) (cwV 3 hts (gdV w_2_122 w_2_123 w_2_124 w_1_1 w_2_125) rfl rfl rfl (by decide +kernel) ⟨Nat.le_of_ble_eq_true rfl, Nat.le_of_ble_eq_true rfl⟩) ⟨iv_bl, sx_recv hK (c0_at hI) rfl, fun U hU hW => ⟨rfl, iv_use hI hwd hS hU hW⟩⟩ rfl rfl hl.1 rfl (lv_room (Nat.le_of_ble_eq_true rfl)) dL_reserve_7 ⟨Nat.le_of_ble_eq_true rfl, Nat.le_of_ble_eq_true rfl⟩) hS (fun q _ h => h) (fun q h => h) (fun q _ h => h) (fun E ce q9 u9 T9 H1 locs ht9 hvm9 hu9 hB9 hz9 hk9 hS hce hcv hcl => ?_) (fun r9 u9 T9 H1 locs ht9 hvm9 e9 hB9 hz9 hk9 hS => ?_)
  · obtain ⟨hE, hB8⟩ := hB9
    subst hu9
    have hI := iv_take ht9 hB8
    rcases hE with ⟨rfl, hc9⟩ | ⟨rfl, hc9⟩
    · refine vx_catch (name := "java/lang/IllegalArgumentException") hown [] ⟨0, 12, 15, 13⟩ [⟨0, 12, 19, 15⟩] hT (fun z hz => by cases hz) (by decide) (by decide) (hts _ w_1_178) (va_Nw.use rfl (wd_n hwd (.castable "java/lang/IllegalArgumentException" "java/lang/IllegalArgumentException") (List.mem_of_getElem? (i := 6) rfl))) hce hcv hcl ?_
      refine W.eq (g2 := F0 m 15 ls [.ref q9]) rfl ?_
      refine lv_astore (lv' := [(6, .ref q9), (0, .ref (al 0 0)), (1, .int d), (2, .int h), (3, .long x), (5, .ref (al 10 0))]) hx hb dL_reserve_15 hl (by decide) rfl (fun ls hl => ?_)
      refine lv_iconst (v := 1) hx hb dL_reserve_17 (by decide) ?_
      refine W.widen (k := 3) (n := 14) (Nat.le_of_ble_eq_true rfl) (Nat.le_of_ble_eq_true rfl) ?_
      exact W.iret (v := 1) hx hb hr (fun t ht hW => ⟨⟨1, (_, μ, al), rfl, ⟨hc9.symm, (x_cRes (by rw [hc9]; decide)).symm, (by rw [hc9]; rfl), fun _ _ _ => rfl⟩, iv_giveH ht hI⟩, hS.F ht⟩) hS.2.2 dL_reserve_18
    · refine vx_catch (name := "java/lang/IllegalStateException") hown [⟨0, 12, 15, 13⟩] ⟨0, 12, 19, 15⟩ [] hT (fun z hz => by cases List.mem_singleton.mp hz; exact Or.inr ⟨by decide, "java/lang/IllegalArgumentException", hts _ w_1_178, hnc⟩) (by decide) (by decide) (hts _ w_1_179) (va_Nw.use rfl (wd_n hwd (.castable "java/lang/IllegalStateException" "java/lang/IllegalStateException") (List.mem_of_getElem? (i := 10) rfl))) hce hcv hcl ?_
      refine W.eq (g2 := F0 m 19 ls [.ref q9]) rfl ?_
      refine lv_astore (lv' := [(6, .ref q9), (0, .ref (al 0 0)), (1, .int d), (2, .int h), (3, .long x), (5, .ref (al 10 0))]) hx hb dL_reserve_19 hl (by decide) rfl (fun ls hl => ?_)
      refine lv_iconst (v := 2) hx hb dL_reserve_21 (by decide) ?_
      refine W.widen (k := 3) (n := 14) (Nat.le_of_ble_eq_true rfl) (Nat.le_of_ble_eq_true rfl) ?_
      exact W.iret (v := 2) hx hb hr (fun t ht hW => ⟨⟨2, (_, μ, al), rfl, ⟨hc9.symm, (x_cRes (by rw [hc9]; decide)).symm, (by rw [hc9]; rfl), fun _ _ _ => rfl⟩, iv_giveH ht hI⟩, hS.F ht⟩) hS.2.2 dL_reserve_22
  · obtain ⟨u8, al8⟩ := u9
    obtain ⟨e9, hag⟩ := e9
    have hI := iv_takeA ht9 hB9
    obtain ⟨al, hag, hI⟩ : ∃ al9, agree al al9 ∧ Inv D dA lo al9 u8 μ H1 := ⟨al8, hag, hI⟩
    have e10 := hag 10 0 (Or.inr (by decide))
    refine W.eq (g2 := F0 m 10 ls [.int r9, .int 0, .ref (al 10 0)]) (by rw [e10]) ?_
    refine lv_i2l hx hb dL_reserve_10 rfl ?_
    refine sx_last hx hb hK hS (c10_at hI) (c10_lo hI) 1 rfl (show vp_in 0 1 from vp_in_nI (n := 0) (by decide) (by decide)) dL_reserve_11 (fun H locs hq => ?_)
    rw [show (0 : Int32).toNatClampNeg = 0 from rfl] at hq
    have hI := c10_uL (f := 0) (v := r9.toInt64) hI hq
    have hS := hq.2.2.2
    refine lv_goto (tgt := 23) hx hb dL_reserve_12 (by decide) ?_
    refine lv_iconst (v := 0) hx hb dL_reserve_23 (by decide) ?_
    refine W.widen (k := 3) (n := 14) (Nat.le_of_ble_eq_true rfl) (Nat.le_of_ble_eq_true rfl) ?_
    exact W.iret (v := 0) hx hb hr (fun t ht hW => ⟨⟨0, (u8, uL μ 10 0 0 r9.toInt64, al), rfl, ⟨(by rw [e9]), (by rw [e9]), (by rw [e9]; rfl), hag⟩, iv_giveH ht hI⟩, hS.F ht⟩) hS.2.2 dL_reserve_24

set_option maxHeartbeats 4000000 in
set_option maxRecDepth 100000 in
theorem h_end (l : Launch) (D : va_G) (dA : Nat → ClassId) (sa : Nat → Nat) (lo : Nat) (al : Nat → Nat → Nat) (σ μ : CS) (hlt : l.stackTraces = false) (x how : Int32) (n r : Nat) (hw : WFc σ n r) : Met l yL_end wsL_end ({ frames := 7, cells := 1, slots := 6, locals := 200 }) (va_Pc [.ref (al 0 0), .int x, .int how, .ref (al 10 0)] (ivN D dA sa lo al σ μ)) (va_Qi (hP32 al μ (cEnd σ r x how)) (ivH D dA lo) (fun q => lo ≤ q)) 1 6 (fun q => lo ≤ q) := by
  refine va_MetW (cc := cL_end) (maxL := 5) (ret := some .int) (hh := [(0, 10, 13, 13)]) (by decide) rfl ?_
  intro p e s m args below meth c s₁ B hml hv
  obtain ⟨rfl, hI, hwd, hnc⟩ := hv
  have hx := B.exec
  have hb := B.bytes
  have hr := B.returns
  have hts : ∀ w ∈ WSall, w.before _ s = true := fun w h => atoms_spec (ws := wsL_end) B.pre w (List.mem_cons_of_mem _ h)
  have hT : c.exceptionTable.toList = tableOf [(0, 10, 13, 13)] := vx_table (x := yL_end) B (atoms_spec (ws := wsL_end) B.pre _ List.mem_cons_self)
  have hown : s.vm.findClass RL = some m.cls := findClass_of_methodNamed B.named
  have hlocks := B.notSynchronized
  have hK := hwd.1
  have hS : va_S (fun q => lo ≤ q) s.heap s.heap [] := va_S.rf
  have hl := lv_entry ([.ref (al 0 0), .int x, .int how, .ref (al 10 0)]) (n := 5) (Nat.le_of_ble_eq_true rfl)
  rw [lg_entry_eq]
  generalize (lg_sl ([.ref (al 0 0), .int x, .int how, .ref (al 10 0)]) ++ List.replicate (5 - (lg_sl ([.ref (al 0 0), .int x, .int how, .ref (al 10 0)])).length) Slot.unset).toArray = ls at hl ⊢
  have hl : lv_has ls 5 [(0, .ref (al 0 0)), (1, .int x), (2, .int how), (3, .ref (al 10 0))] := hl
  refine lv_aload_n hx hb dL_end_0 rfl (lv_at hl 3 rfl) ?_
  refine lv_iconst (v := 0) hx hb dL_end_1 (by decide) ?_
  refine lv_aload_n hx hb dL_end_2 rfl (lv_at hl 0 rfl) ?_
  refine lv_iload_n hx hb dL_end_3 rfl (lv_at hl 1 rfl) ?_
  refine lv_iload_n hx hb dL_end_4 rfl (lv_at hl 2 rfl) ?_
  refine vx_calli (vx_runV (As := [.int x, .int how]) (rest := [.int 0, .ref (al 10 0)]) ⟨hx, hb, hml, hown, hts⟩ (t_end l D dA sa lo al σ μ hlt x how n r hw) (cwV 2 hts (gdV w_2_164 w_2_165 w_2_166 w_1_1 w_2_167) rfl rfl rfl (by decide +kernel) ⟨Nat.le_of_ble_eq_true rfl, Nat.le_of_ble_eq_true rfl⟩) ⟨iv_bl, sx_recv hK (c0_at hI) rfl, fun U hU hW => ⟨rfl, iv_use hI hwd hS hU hW⟩⟩ rfl rfl hl.1 rfl (lv_room (Nat.le_of_ble_eq_true rfl)) dL_end_5 ⟨Nat.le_of_ble_eq_true rfl, Nat.le_of_ble_eq_true rfl⟩) hS (fun q _ h => h) (fun q h => h) (fun q _ h => h) (fun E ce q9 u9 T9 H1 locs ht9 hvm9 hu9 hB9 hz9 hk9 hS hce hcv hcl => ?_) (fun r9 u9 T9 H1 locs ht9 hvm9 e9 hB9 hz9 hk9 hS => ?_)
  · obtain ⟨hE, hB8⟩ := hB9
    subst hu9
    have hI := iv_take ht9 hB8
    obtain ⟨rfl, hc9⟩ := hE
    refine vx_catch (name := "java/lang/IllegalArgumentException") hown [] ⟨0, 10, 13, 13⟩ [] hT (fun z hz => by cases hz) (by decide) (by decide) (hts _ w_1_178) (va_Nw.use rfl (wd_n hwd (.castable "java/lang/IllegalArgumentException" "java/lang/IllegalArgumentException") (List.mem_of_getElem? (i := 6) rfl))) hce hcv hcl ?_
    refine W.eq (g2 := F0 m 13 ls [.ref q9]) rfl ?_
    refine lv_astore (lv' := [(4, .ref q9), (0, .ref (al 0 0)), (1, .int x), (2, .int how), (3, .ref (al 10 0))]) hx hb dL_end_13 hl (by decide) rfl (fun ls hl => ?_)
    refine lv_iconst (v := 1) hx hb dL_end_15 (by decide) ?_
    refine W.widen (k := 1) (n := 6) (Nat.le_of_ble_eq_true rfl) (Nat.le_of_ble_eq_true rfl) ?_
    exact W.iret (v := 1) hx hb hr (fun t ht hW => ⟨⟨1, (_, μ, al), rfl, ⟨hc9.symm, (x_cEnd (by rw [hc9]; decide)).symm, (by rw [hc9]; rfl), fun _ _ _ => rfl⟩, iv_giveH ht hI⟩, hS.F ht⟩) hS.2.2 dL_end_16
  · have hI := iv_take ht9 hB9
    have hag : agree al al := fun _ _ _ => rfl
    refine lv_i2l hx hb dL_end_8 rfl ?_
    refine sx_last hx hb hK hS (c10_at hI) (c10_lo hI) 1 rfl (show vp_in 0 1 from vp_in_nI (n := 0) (by decide) (by decide)) dL_end_9 (fun H locs hq => ?_)
    rw [show (0 : Int32).toNatClampNeg = 0 from rfl] at hq
    have hI := c10_uL (f := 0) (v := r9.toInt64) hI hq
    have hS := hq.2.2.2
    refine lv_goto (tgt := 17) hx hb dL_end_10 (by decide) ?_
    refine lv_iconst (v := 0) hx hb dL_end_17 (by decide) ?_
    refine W.widen (k := 1) (n := 6) (Nat.le_of_ble_eq_true rfl) (Nat.le_of_ble_eq_true rfl) ?_
    exact W.iret (v := 0) hx hb hr (fun t ht hW => ⟨⟨0, (u9, uL μ 10 0 0 r9.toInt64, al), rfl, ⟨(by rw [e9]), (by rw [e9]), (by rw [e9]; rfl), hag⟩, iv_giveH ht hI⟩, hS.F ht⟩) hS.2.2 dL_end_18

set_option maxHeartbeats 4000000 in
set_option maxRecDepth 100000 in
theorem h_reduce (l : Launch) (D : va_G) (dA : Nat → ClassId) (sa : Nat → Nat) (lo : Nat) (al : Nat → Nat → Nat) (σ μ : CS) (hlt : l.stackTraces = false) (x : Int32) (ct : Int64) (n r : Nat) (hw : WFc σ n r) : Met l yL_reduce wsL_reduce ({ frames := 7, cells := 1, slots := 6, locals := 200 }) (va_Pc [.ref (al 0 0), .int x, .long ct, .ref (al 10 0)] (ivN D dA sa lo al σ μ)) (va_Qi (hP64 al μ (cReduce σ r x ct)) (ivH D dA lo) (fun q => lo ≤ q)) 1 6 (fun q => lo ≤ q) := by
  refine va_MetW (cc := cL_reduce) (maxL := 6) (ret := some .int) (hh := [(0, 10, 13, 13)]) (by decide) rfl ?_
  intro p e s m args below meth c s₁ B hml hv
  obtain ⟨rfl, hI, hwd, hnc⟩ := hv
  have hx := B.exec
  have hb := B.bytes
  have hr := B.returns
  have hts : ∀ w ∈ WSall, w.before _ s = true := fun w h => atoms_spec (ws := wsL_reduce) B.pre w (List.mem_cons_of_mem _ h)
  have hT : c.exceptionTable.toList = tableOf [(0, 10, 13, 13)] := vx_table (x := yL_reduce) B (atoms_spec (ws := wsL_reduce) B.pre _ List.mem_cons_self)
  have hown : s.vm.findClass RL = some m.cls := findClass_of_methodNamed B.named
  have hlocks := B.notSynchronized
  have hK := hwd.1
  have hS : va_S (fun q => lo ≤ q) s.heap s.heap [] := va_S.rf
  have hl := lv_entry ([.ref (al 0 0), .int x, .long ct, .ref (al 10 0)]) (n := 6) (Nat.le_of_ble_eq_true rfl)
  rw [lg_entry_eq]
  generalize (lg_sl ([.ref (al 0 0), .int x, .long ct, .ref (al 10 0)]) ++ List.replicate (6 - (lg_sl ([.ref (al 0 0), .int x, .long ct, .ref (al 10 0)])).length) Slot.unset).toArray = ls at hl ⊢
  have hl : lv_has ls 6 [(0, .ref (al 0 0)), (1, .int x), (2, .long ct), (4, .ref (al 10 0))] := hl
  refine lv_aload hx hb dL_reduce_0 (lv_at hl 3 rfl) ?_
  refine lv_iconst (v := 0) hx hb dL_reduce_2 (by decide) ?_
  refine lv_aload_n hx hb dL_reduce_3 rfl (lv_at hl 0 rfl) ?_
  refine lv_iload_n hx hb dL_reduce_4 rfl (lv_at hl 1 rfl) ?_
  refine lv_lload_n hx hb dL_reduce_5 rfl (lv_at hl 2 rfl) ?_
  refine vx_calll (vx_runV (As := [.int x, .long ct]) (rest := [.int 0, .ref (al 10 0)]) ⟨hx, hb, hml, hown, hts⟩ (t_reduce l D dA sa lo al σ μ hlt x ct n r hw) (cwV 2 hts (gdV w_2_184 w_2_185 w_2_186 w_1_1 w_2_187) rfl rfl rfl (by decide +kernel) ⟨Nat.le_of_ble_eq_true rfl, Nat.le_of_ble_eq_true rfl⟩) ⟨iv_bl, sx_recv hK (c0_at hI) rfl, fun U hU hW => ⟨rfl, iv_use hI hwd hS hU hW⟩⟩ rfl rfl hl.1 rfl (lv_room (Nat.le_of_ble_eq_true rfl)) dL_reduce_6 ⟨Nat.le_of_ble_eq_true rfl, Nat.le_of_ble_eq_true rfl⟩) hS (fun q _ h => h) (fun q h => h) (fun q _ h => h) (fun E ce q9 u9 T9 H1 locs ht9 hvm9 hu9 hB9 hz9 hk9 hS hce hcv hcl => ?_) (fun r9 u9 T9 H1 locs ht9 hvm9 e9 hB9 hz9 hk9 hS => ?_)
  · obtain ⟨hE, hB8⟩ := hB9
    subst hu9
    have hI := iv_take ht9 hB8
    obtain ⟨rfl, hc9⟩ := hE
    refine vx_catch (name := "java/lang/IllegalArgumentException") hown [] ⟨0, 10, 13, 13⟩ [] hT (fun z hz => by cases hz) (by decide) (by decide) (hts _ w_1_178) (va_Nw.use rfl (wd_n hwd (.castable "java/lang/IllegalArgumentException" "java/lang/IllegalArgumentException") (List.mem_of_getElem? (i := 6) rfl))) hce hcv hcl ?_
    refine W.eq (g2 := F0 m 13 ls [.ref q9]) rfl ?_
    refine lv_astore (lv' := [(5, .ref q9), (0, .ref (al 0 0)), (1, .int x), (2, .long ct), (4, .ref (al 10 0))]) hx hb dL_reduce_13 hl (by decide) rfl (fun ls hl => ?_)
    refine lv_iconst (v := 1) hx hb dL_reduce_15 (by decide) ?_
    refine W.widen (k := 1) (n := 6) (Nat.le_of_ble_eq_true rfl) (Nat.le_of_ble_eq_true rfl) ?_
    exact W.iret (v := 1) hx hb hr (fun t ht hW => ⟨⟨1, (_, μ, al), rfl, ⟨hc9.symm, (x_cReduce (by rw [hc9]; decide)).symm, (by rw [hc9]; rfl), fun _ _ _ => rfl⟩, iv_giveH ht hI⟩, hS.F ht⟩) hS.2.2 dL_reduce_16
  · have hI := iv_take ht9 hB9
    have hag : agree al al := fun _ _ _ => rfl
    refine sx_last hx hb hK hS (c10_at hI) (c10_lo hI) 1 rfl (show vp_in 0 1 from vp_in_nI (n := 0) (by decide) (by decide)) dL_reduce_9 (fun H locs hq => ?_)
    rw [show (0 : Int32).toNatClampNeg = 0 from rfl] at hq
    have hI := c10_uL (f := 0) (v := r9) hI hq
    have hS := hq.2.2.2
    refine lv_goto (tgt := 17) hx hb dL_reduce_10 (by decide) ?_
    refine lv_iconst (v := 0) hx hb dL_reduce_17 (by decide) ?_
    refine W.widen (k := 1) (n := 6) (Nat.le_of_ble_eq_true rfl) (Nat.le_of_ble_eq_true rfl) ?_
    exact W.iret (v := 0) hx hb hr (fun t ht hW => ⟨⟨0, (u9, uL μ 10 0 0 r9, al), rfl, ⟨(by rw [e9]), (by rw [e9]), (by rw [e9]; rfl), hag⟩, iv_giveH ht hI⟩, hS.F ht⟩) hS.2.2 dL_reduce_18

set_option maxHeartbeats 4000000 in
set_option maxRecDepth 100000 in
theorem h_claim (l : Launch) (D : va_G) (dA : Nat → ClassId) (sa : Nat → Nat) (lo : Nat) (al : Nat → Nat → Nat) (σ μ : CS) (hlt : l.stackTraces = false) (x : Int32) (ct : Int64) (n r : Nat) (hw : WFc σ n r) : Met l yL_claim wsL_claim ({ frames := 7, cells := 1, slots := 6, locals := 200 }) (va_Pc [.ref (al 0 0), .int x, .long ct, .ref (al 10 0)] (ivN D dA sa lo al σ μ)) (va_Qi (hP64 al μ (cClaim σ r x ct)) (ivH D dA lo) (fun q => lo ≤ q)) 1 6 (fun q => lo ≤ q) := by
  refine va_MetW (cc := cL_claim) (maxL := 6) (ret := some .int) (hh := [(0, 10, 13, 13)]) (by decide) rfl ?_
  intro p e s m args below meth c s₁ B hml hv
  obtain ⟨rfl, hI, hwd, hnc⟩ := hv
  have hx := B.exec
  have hb := B.bytes
  have hr := B.returns
  have hts : ∀ w ∈ WSall, w.before _ s = true := fun w h => atoms_spec (ws := wsL_claim) B.pre w (List.mem_cons_of_mem _ h)
  have hT : c.exceptionTable.toList = tableOf [(0, 10, 13, 13)] := vx_table (x := yL_claim) B (atoms_spec (ws := wsL_claim) B.pre _ List.mem_cons_self)
  have hown : s.vm.findClass RL = some m.cls := findClass_of_methodNamed B.named
  have hlocks := B.notSynchronized
  have hK := hwd.1
  have hS : va_S (fun q => lo ≤ q) s.heap s.heap [] := va_S.rf
  have hl := lv_entry ([.ref (al 0 0), .int x, .long ct, .ref (al 10 0)]) (n := 6) (Nat.le_of_ble_eq_true rfl)
  rw [lg_entry_eq]
  generalize (lg_sl ([.ref (al 0 0), .int x, .long ct, .ref (al 10 0)]) ++ List.replicate (6 - (lg_sl ([.ref (al 0 0), .int x, .long ct, .ref (al 10 0)])).length) Slot.unset).toArray = ls at hl ⊢
  have hl : lv_has ls 6 [(0, .ref (al 0 0)), (1, .int x), (2, .long ct), (4, .ref (al 10 0))] := hl
  refine lv_aload hx hb dL_claim_0 (lv_at hl 3 rfl) ?_
  refine lv_iconst (v := 0) hx hb dL_claim_2 (by decide) ?_
  refine lv_aload_n hx hb dL_claim_3 rfl (lv_at hl 0 rfl) ?_
  refine lv_iload_n hx hb dL_claim_4 rfl (lv_at hl 1 rfl) ?_
  refine lv_lload_n hx hb dL_claim_5 rfl (lv_at hl 2 rfl) ?_
  refine vx_calll (vx_runV (As := [.int x, .long ct]) (rest := [.int 0, .ref (al 10 0)]) ⟨hx, hb, hml, hown, hts⟩ (t_claim l D dA sa lo al σ μ hlt x ct n r hw) (cwV 2 hts (gdV w_2_201 w_2_202 w_2_203 w_1_1 w_2_204) rfl rfl rfl (by decide +kernel) ⟨Nat.le_of_ble_eq_true rfl, Nat.le_of_ble_eq_true rfl⟩) ⟨iv_bl, sx_recv hK (c0_at hI) rfl, fun U hU hW => ⟨rfl, iv_use hI hwd hS hU hW⟩⟩ rfl rfl hl.1 rfl (lv_room (Nat.le_of_ble_eq_true rfl)) dL_claim_6 ⟨Nat.le_of_ble_eq_true rfl, Nat.le_of_ble_eq_true rfl⟩) hS (fun q _ h => h) (fun q h => h) (fun q _ h => h) (fun E ce q9 u9 T9 H1 locs ht9 hvm9 hu9 hB9 hz9 hk9 hS hce hcv hcl => ?_) (fun r9 u9 T9 H1 locs ht9 hvm9 e9 hB9 hz9 hk9 hS => ?_)
  · obtain ⟨hE, hB8⟩ := hB9
    subst hu9
    have hI := iv_take ht9 hB8
    obtain ⟨rfl, hc9⟩ := hE
    refine vx_catch (name := "java/lang/IllegalArgumentException") hown [] ⟨0, 10, 13, 13⟩ [] hT (fun z hz => by cases hz) (by decide) (by decide) (hts _ w_1_178) (va_Nw.use rfl (wd_n hwd (.castable "java/lang/IllegalArgumentException" "java/lang/IllegalArgumentException") (List.mem_of_getElem? (i := 6) rfl))) hce hcv hcl ?_
    refine W.eq (g2 := F0 m 13 ls [.ref q9]) rfl ?_
    refine lv_astore (lv' := [(5, .ref q9), (0, .ref (al 0 0)), (1, .int x), (2, .long ct), (4, .ref (al 10 0))]) hx hb dL_claim_13 hl (by decide) rfl (fun ls hl => ?_)
    refine lv_iconst (v := 1) hx hb dL_claim_15 (by decide) ?_
    refine W.widen (k := 1) (n := 6) (Nat.le_of_ble_eq_true rfl) (Nat.le_of_ble_eq_true rfl) ?_
    exact W.iret (v := 1) hx hb hr (fun t ht hW => ⟨⟨1, (_, μ, al), rfl, ⟨hc9.symm, (x_cClaim (by rw [hc9]; decide)).symm, (by rw [hc9]; rfl), fun _ _ _ => rfl⟩, iv_giveH ht hI⟩, hS.F ht⟩) hS.2.2 dL_claim_16
  · have hI := iv_take ht9 hB9
    have hag : agree al al := fun _ _ _ => rfl
    refine sx_last hx hb hK hS (c10_at hI) (c10_lo hI) 1 rfl (show vp_in 0 1 from vp_in_nI (n := 0) (by decide) (by decide)) dL_claim_9 (fun H locs hq => ?_)
    rw [show (0 : Int32).toNatClampNeg = 0 from rfl] at hq
    have hI := c10_uL (f := 0) (v := r9) hI hq
    have hS := hq.2.2.2
    refine lv_goto (tgt := 17) hx hb dL_claim_10 (by decide) ?_
    refine lv_iconst (v := 0) hx hb dL_claim_17 (by decide) ?_
    refine W.widen (k := 1) (n := 6) (Nat.le_of_ble_eq_true rfl) (Nat.le_of_ble_eq_true rfl) ?_
    exact W.iret (v := 0) hx hb hr (fun t ht hW => ⟨⟨0, (u9, uL μ 10 0 0 r9, al), rfl, ⟨(by rw [e9]), (by rw [e9]), (by rw [e9]; rfl), hag⟩, iv_giveH ht hI⟩, hS.F ht⟩) hS.2.2 dL_claim_18

set_option maxHeartbeats 4000000 in
set_option maxRecDepth 100000 in
theorem h_interest (l : Launch) (D : va_G) (dA : Nat → ClassId) (sa : Nat → Nat) (lo : Nat) (al : Nat → Nat → Nat) (σ μ : CS) (hlt : l.stackTraces = false) (x : Int32) (n r : Nat) (hw : WFc σ n r) : Met l yL_interest wsL_interest ({ frames := 7, cells := 1, slots := 6, locals := 200 }) (va_Pc [.ref (al 0 0), .int x, .ref (al 10 0)] (ivN D dA sa lo al σ μ)) (va_Qi (hP64 al μ (cInterest σ n x)) (ivH D dA lo) (fun q => lo ≤ q)) 1 6 (fun q => lo ≤ q) := by
  refine va_MetW (cc := cL_interest) (maxL := 4) (ret := some .int) (hh := [(0, 8, 11, 13)]) (by decide) rfl ?_
  intro p e s m args below meth c s₁ B hml hv
  obtain ⟨rfl, hI, hwd, hnc⟩ := hv
  have hx := B.exec
  have hb := B.bytes
  have hr := B.returns
  have hts : ∀ w ∈ WSall, w.before _ s = true := fun w h => atoms_spec (ws := wsL_interest) B.pre w (List.mem_cons_of_mem _ h)
  have hT : c.exceptionTable.toList = tableOf [(0, 8, 11, 13)] := vx_table (x := yL_interest) B (atoms_spec (ws := wsL_interest) B.pre _ List.mem_cons_self)
  have hown : s.vm.findClass RL = some m.cls := findClass_of_methodNamed B.named
  have hlocks := B.notSynchronized
  have hK := hwd.1
  have hS : va_S (fun q => lo ≤ q) s.heap s.heap [] := va_S.rf
  have hl := lv_entry ([.ref (al 0 0), .int x, .ref (al 10 0)]) (n := 4) (Nat.le_of_ble_eq_true rfl)
  rw [lg_entry_eq]
  generalize (lg_sl ([.ref (al 0 0), .int x, .ref (al 10 0)]) ++ List.replicate (4 - (lg_sl ([.ref (al 0 0), .int x, .ref (al 10 0)])).length) Slot.unset).toArray = ls at hl ⊢
  have hl : lv_has ls 4 [(0, .ref (al 0 0)), (1, .int x), (2, .ref (al 10 0))] := hl
  refine lv_aload_n hx hb dL_interest_0 rfl (lv_at hl 2 rfl) ?_
  refine lv_iconst (v := 0) hx hb dL_interest_1 (by decide) ?_
  refine lv_aload_n hx hb dL_interest_2 rfl (lv_at hl 0 rfl) ?_
  refine lv_iload_n hx hb dL_interest_3 rfl (lv_at hl 1 rfl) ?_
  refine vx_calll (vx_runV (As := [.int x]) (rest := [.int 0, .ref (al 10 0)]) ⟨hx, hb, hml, hown, hts⟩ (t_interest l D dA sa lo al σ μ hlt x n r hw) (cwV 1 hts (gdV w_2_218 w_2_219 w_2_220 w_1_1 w_2_221) rfl rfl rfl (by decide +kernel) ⟨Nat.le_of_ble_eq_true rfl, Nat.le_of_ble_eq_true rfl⟩) ⟨iv_bl, sx_recv hK (c0_at hI) rfl, fun U hU hW => ⟨rfl, iv_use hI hwd hS hU hW⟩⟩ rfl rfl hl.1 rfl (lv_room (Nat.le_of_ble_eq_true rfl)) dL_interest_4 ⟨Nat.le_of_ble_eq_true rfl, Nat.le_of_ble_eq_true rfl⟩) hS (fun q _ h => h) (fun q h => h) (fun q _ h => h) (fun E ce q9 u9 T9 H1 locs ht9 hvm9 hu9 hB9 hz9 hk9 hS hce hcv hcl => ?_) (fun r9 u9 T9 H1 locs ht9 hvm9 e9 hB9 hz9 hk9 hS => ?_)
  · obtain ⟨hE, hB8⟩ := hB9
    subst hu9
    have hI := iv_take ht9 hB8
    obtain ⟨rfl, hc9⟩ := hE
    refine vx_catch (name := "java/lang/IllegalArgumentException") hown [] ⟨0, 8, 11, 13⟩ [] hT (fun z hz => by cases hz) (by decide) (by decide) (hts _ w_1_178) (va_Nw.use rfl (wd_n hwd (.castable "java/lang/IllegalArgumentException" "java/lang/IllegalArgumentException") (List.mem_of_getElem? (i := 6) rfl))) hce hcv hcl ?_
    refine W.eq (g2 := F0 m 11 ls [.ref q9]) rfl ?_
    refine lv_astore_n (lv' := [(3, .ref q9), (0, .ref (al 0 0)), (1, .int x), (2, .ref (al 10 0))]) hx hb dL_interest_11 rfl hl (by decide) rfl (fun ls hl => ?_)
    refine lv_iconst (v := 1) hx hb dL_interest_12 (by decide) ?_
    refine W.widen (k := 1) (n := 6) (Nat.le_of_ble_eq_true rfl) (Nat.le_of_ble_eq_true rfl) ?_
    exact W.iret (v := 1) hx hb hr (fun t ht hW => ⟨⟨1, (_, μ, al), rfl, ⟨hc9.symm, (x_cInterest (by rw [hc9]; decide)).symm, (by rw [hc9]; rfl), fun _ _ _ => rfl⟩, iv_giveH ht hI⟩, hS.F ht⟩) hS.2.2 dL_interest_13
  · have hI := iv_take ht9 hB9
    have hag : agree al al := fun _ _ _ => rfl
    refine sx_last hx hb hK hS (c10_at hI) (c10_lo hI) 1 rfl (show vp_in 0 1 from vp_in_nI (n := 0) (by decide) (by decide)) dL_interest_7 (fun H locs hq => ?_)
    rw [show (0 : Int32).toNatClampNeg = 0 from rfl] at hq
    have hI := c10_uL (f := 0) (v := r9) hI hq
    have hS := hq.2.2.2
    refine lv_goto (tgt := 14) hx hb dL_interest_8 (by decide) ?_
    refine lv_iconst (v := 0) hx hb dL_interest_14 (by decide) ?_
    refine W.widen (k := 1) (n := 6) (Nat.le_of_ble_eq_true rfl) (Nat.le_of_ble_eq_true rfl) ?_
    exact W.iret (v := 0) hx hb hr (fun t ht hW => ⟨⟨0, (u9, uL μ 10 0 0 r9, al), rfl, ⟨(by rw [e9]), (by rw [e9]), (by rw [e9]; rfl), hag⟩, iv_giveH ht hI⟩, hS.F ht⟩) hS.2.2 dL_interest_15

set_option maxHeartbeats 4000000 in
set_option maxRecDepth 100000 in
theorem h_look (l : Launch) (D : va_G) (dA : Nat → ClassId) (sa : Nat → Nat) (lo : Nat) (al : Nat → Nat → Nat) (σ μ : CS) (hlt : l.stackTraces = false) (x w : Int32) (n r : Nat) (hw : WFc σ n r) : Met l yL_look wsL_look ({ frames := 7, cells := 1, slots := 6, locals := 200 }) (va_Pc [.ref (al 0 0), .int x, .int w, .ref (al 10 0)] (ivN D dA sa lo al σ μ)) (va_Qi (hP64 al μ (cLook σ n x w)) (ivH D dA lo) (fun q => lo ≤ q)) 1 6 (fun q => lo ≤ q) := by
  refine va_MetW (cc := cL_look) (maxL := 5) (ret := some .int) (hh := [(0, 9, 12, 40)]) (by decide) rfl ?_
  intro p e s m args below meth c s₁ B hml hv
  obtain ⟨rfl, hI, hwd, hnc⟩ := hv
  have hx := B.exec
  have hb := B.bytes
  have hr := B.returns
  have hts : ∀ w ∈ WSall, w.before _ s = true := fun w h => atoms_spec (ws := wsL_look) B.pre w (List.mem_cons_of_mem _ h)
  have hT : c.exceptionTable.toList = tableOf [(0, 9, 12, 40)] := vx_table (x := yL_look) B (atoms_spec (ws := wsL_look) B.pre _ List.mem_cons_self)
  have hown : s.vm.findClass RL = some m.cls := findClass_of_methodNamed B.named
  have hlocks := B.notSynchronized
  have hK := hwd.1
  have hS : va_S (fun q => lo ≤ q) s.heap s.heap [] := va_S.rf
  have hl := lv_entry ([.ref (al 0 0), .int x, .int w, .ref (al 10 0)]) (n := 5) (Nat.le_of_ble_eq_true rfl)
  rw [lg_entry_eq]
  generalize (lg_sl ([.ref (al 0 0), .int x, .int w, .ref (al 10 0)]) ++ List.replicate (5 - (lg_sl ([.ref (al 0 0), .int x, .int w, .ref (al 10 0)])).length) Slot.unset).toArray = ls at hl ⊢
  have hl : lv_has ls 5 [(0, .ref (al 0 0)), (1, .int x), (2, .int w), (3, .ref (al 10 0))] := hl
  refine lv_aload_n hx hb dL_look_0 rfl (lv_at hl 3 rfl) ?_
  refine lv_iconst (v := 0) hx hb dL_look_1 (by decide) ?_
  refine lv_aload_n hx hb dL_look_2 rfl (lv_at hl 0 rfl) ?_
  refine lv_iload_n hx hb dL_look_3 rfl (lv_at hl 1 rfl) ?_
  refine lv_iload_n hx hb dL_look_4 rfl (lv_at hl 2 rfl) ?_
  refine vx_calll (vx_runV (As := [.int x, .int w]) (rest := [.int 0, .ref (al 10 0)]) ⟨hx, hb, hml, hown, hts⟩ (t_look l D dA sa lo al σ μ hlt x w n r hw) (cwV 2 hts (gdV w_2_228 w_2_229 w_2_230 w_1_1 w_2_231) rfl rfl rfl (by decide +kernel) ⟨Nat.le_of_ble_eq_true rfl, Nat.le_of_ble_eq_true rfl⟩) ⟨iv_bl, sx_recv hK (c0_at hI) rfl, fun U hU hW => ⟨rfl, iv_use hI hwd hS hU hW⟩⟩ rfl rfl hl.1 rfl (lv_room (Nat.le_of_ble_eq_true rfl)) dL_look_5 ⟨Nat.le_of_ble_eq_true rfl, Nat.le_of_ble_eq_true rfl⟩) hS (fun q _ h => h) (fun q h => h) (fun q _ h => h) (fun E ce q9 u9 T9 H1 locs ht9 hvm9 hu9 hB9 hz9 hk9 hS hce hcv hcl => ?_) (fun r9 u9 T9 H1 locs ht9 hvm9 e9 hB9 hz9 hk9 hS => ?_)
  · obtain ⟨hE, hB8⟩ := hB9
    subst hu9
    have hI := iv_take ht9 hB8
    obtain ⟨rfl, hc9⟩ := hE
    refine vx_catch (name := "java/lang/IndexOutOfBoundsException") hown [] ⟨0, 9, 12, 40⟩ [] hT (fun z hz => by cases hz) (by decide) (by decide) (hts _ w_2_227) (va_Nw.use rfl (wd_n hwd (.castable "java/lang/IndexOutOfBoundsException" "java/lang/IndexOutOfBoundsException") (List.mem_of_getElem? (i := 21) rfl))) hce hcv hcl ?_
    refine W.eq (g2 := F0 m 12 ls [.ref q9]) rfl ?_
    refine lv_astore (lv' := [(4, .ref q9), (0, .ref (al 0 0)), (1, .int x), (2, .int w), (3, .ref (al 10 0))]) hx hb dL_look_12 hl (by decide) rfl (fun ls hl => ?_)
    refine lv_iconst (v := 1) hx hb dL_look_14 (by decide) ?_
    refine W.widen (k := 1) (n := 6) (Nat.le_of_ble_eq_true rfl) (Nat.le_of_ble_eq_true rfl) ?_
    exact W.iret (v := 1) hx hb hr (fun t ht hW => ⟨⟨1, (_, μ, al), rfl, ⟨hc9.symm, (x_cLook (by rw [hc9]; decide)).symm, (by rw [hc9]; rfl), fun _ _ _ => rfl⟩, iv_giveH ht hI⟩, hS.F ht⟩) hS.2.2 dL_look_15
  · have hI := iv_take ht9 hB9
    have hag : agree al al := fun _ _ _ => rfl
    refine sx_last hx hb hK hS (c10_at hI) (c10_lo hI) 1 rfl (show vp_in 0 1 from vp_in_nI (n := 0) (by decide) (by decide)) dL_look_8 (fun H locs hq => ?_)
    rw [show (0 : Int32).toNatClampNeg = 0 from rfl] at hq
    have hI := c10_uL (f := 0) (v := r9) hI hq
    have hS := hq.2.2.2
    refine lv_goto (tgt := 16) hx hb dL_look_9 (by decide) ?_
    refine lv_iconst (v := 0) hx hb dL_look_16 (by decide) ?_
    refine W.widen (k := 1) (n := 6) (Nat.le_of_ble_eq_true rfl) (Nat.le_of_ble_eq_true rfl) ?_
    exact W.iret (v := 0) hx hb hr (fun t ht hW => ⟨⟨0, (u9, uL μ 10 0 0 r9, al), rfl, ⟨(by rw [e9]), (by rw [e9]), (by rw [e9]; rfl), hag⟩, iv_giveH ht hI⟩, hS.F ht⟩) hS.2.2 dL_look_17

set_option maxHeartbeats 4000000 in
set_option maxRecDepth 100000 in
theorem h_of (l : Launch) (D : va_G) (dA : Nat → ClassId) (sa : Nat → Nat) (lo : Nat) (al : Nat → Nat → Nat) (σ μ : CS) (hlt : l.stackTraces = false) (x w : Int32) (n r : Nat) (hw : WFc σ n r) : Met l yL_of wsL_of ({ frames := 7, cells := 1, slots := 6, locals := 200 }) (va_Pc [.ref (al 0 0), .int x, .int w, .ref (al 10 0)] (ivN D dA sa lo al σ μ)) (va_Qi (hP64 al μ (cOf σ r x w)) (ivH D dA lo) (fun q => lo ≤ q)) 1 6 (fun q => lo ≤ q) := by
  refine va_MetW (cc := cL_of) (maxL := 5) (ret := some .int) (hh := [(0, 9, 12, 40)]) (by decide) rfl ?_
  intro p e s m args below meth c s₁ B hml hv
  obtain ⟨rfl, hI, hwd, hnc⟩ := hv
  have hx := B.exec
  have hb := B.bytes
  have hr := B.returns
  have hts : ∀ w ∈ WSall, w.before _ s = true := fun w h => atoms_spec (ws := wsL_of) B.pre w (List.mem_cons_of_mem _ h)
  have hT : c.exceptionTable.toList = tableOf [(0, 9, 12, 40)] := vx_table (x := yL_of) B (atoms_spec (ws := wsL_of) B.pre _ List.mem_cons_self)
  have hown : s.vm.findClass RL = some m.cls := findClass_of_methodNamed B.named
  have hlocks := B.notSynchronized
  have hK := hwd.1
  have hS : va_S (fun q => lo ≤ q) s.heap s.heap [] := va_S.rf
  have hl := lv_entry ([.ref (al 0 0), .int x, .int w, .ref (al 10 0)]) (n := 5) (Nat.le_of_ble_eq_true rfl)
  rw [lg_entry_eq]
  generalize (lg_sl ([.ref (al 0 0), .int x, .int w, .ref (al 10 0)]) ++ List.replicate (5 - (lg_sl ([.ref (al 0 0), .int x, .int w, .ref (al 10 0)])).length) Slot.unset).toArray = ls at hl ⊢
  have hl : lv_has ls 5 [(0, .ref (al 0 0)), (1, .int x), (2, .int w), (3, .ref (al 10 0))] := hl
  refine lv_aload_n hx hb dL_of_0 rfl (lv_at hl 3 rfl) ?_
  refine lv_iconst (v := 0) hx hb dL_of_1 (by decide) ?_
  refine lv_aload_n hx hb dL_of_2 rfl (lv_at hl 0 rfl) ?_
  refine lv_iload_n hx hb dL_of_3 rfl (lv_at hl 1 rfl) ?_
  refine lv_iload_n hx hb dL_of_4 rfl (lv_at hl 2 rfl) ?_
  refine vx_calll (vx_runV (As := [.int x, .int w]) (rest := [.int 0, .ref (al 10 0)]) ⟨hx, hb, hml, hown, hts⟩ (t_of l D dA sa lo al σ μ hlt x w n r hw) (cwV 2 hts (gdV w_3_16 w_3_17 w_3_18 w_1_1 w_3_19) rfl rfl rfl (by decide +kernel) ⟨Nat.le_of_ble_eq_true rfl, Nat.le_of_ble_eq_true rfl⟩) ⟨iv_bl, sx_recv hK (c0_at hI) rfl, fun U hU hW => ⟨rfl, iv_use hI hwd hS hU hW⟩⟩ rfl rfl hl.1 rfl (lv_room (Nat.le_of_ble_eq_true rfl)) dL_of_5 ⟨Nat.le_of_ble_eq_true rfl, Nat.le_of_ble_eq_true rfl⟩) hS (fun q _ h => h) (fun q h => h) (fun q _ h => h) (fun E ce q9 u9 T9 H1 locs ht9 hvm9 hu9 hB9 hz9 hk9 hS hce hcv hcl => ?_) (fun r9 u9 T9 H1 locs ht9 hvm9 e9 hB9 hz9 hk9 hS => ?_)
  · obtain ⟨hE, hB8⟩ := hB9
    subst hu9
    have hI := iv_take ht9 hB8
    obtain ⟨rfl, hc9⟩ := hE
    refine vx_catch (name := "java/lang/IndexOutOfBoundsException") hown [] ⟨0, 9, 12, 40⟩ [] hT (fun z hz => by cases hz) (by decide) (by decide) (hts _ w_2_227) (va_Nw.use rfl (wd_n hwd (.castable "java/lang/IndexOutOfBoundsException" "java/lang/IndexOutOfBoundsException") (List.mem_of_getElem? (i := 21) rfl))) hce hcv hcl ?_
    refine W.eq (g2 := F0 m 12 ls [.ref q9]) rfl ?_
    refine lv_astore (lv' := [(4, .ref q9), (0, .ref (al 0 0)), (1, .int x), (2, .int w), (3, .ref (al 10 0))]) hx hb dL_of_12 hl (by decide) rfl (fun ls hl => ?_)
    refine lv_iconst (v := 1) hx hb dL_of_14 (by decide) ?_
    refine W.widen (k := 1) (n := 6) (Nat.le_of_ble_eq_true rfl) (Nat.le_of_ble_eq_true rfl) ?_
    exact W.iret (v := 1) hx hb hr (fun t ht hW => ⟨⟨1, (_, μ, al), rfl, ⟨hc9.symm, (x_cOf (by rw [hc9]; decide)).symm, (by rw [hc9]; rfl), fun _ _ _ => rfl⟩, iv_giveH ht hI⟩, hS.F ht⟩) hS.2.2 dL_of_15
  · have hI := iv_take ht9 hB9
    have hag : agree al al := fun _ _ _ => rfl
    refine sx_last hx hb hK hS (c10_at hI) (c10_lo hI) 1 rfl (show vp_in 0 1 from vp_in_nI (n := 0) (by decide) (by decide)) dL_of_8 (fun H locs hq => ?_)
    rw [show (0 : Int32).toNatClampNeg = 0 from rfl] at hq
    have hI := c10_uL (f := 0) (v := r9) hI hq
    have hS := hq.2.2.2
    refine lv_goto (tgt := 16) hx hb dL_of_9 (by decide) ?_
    refine lv_iconst (v := 0) hx hb dL_of_16 (by decide) ?_
    refine W.widen (k := 1) (n := 6) (Nat.le_of_ble_eq_true rfl) (Nat.le_of_ble_eq_true rfl) ?_
    exact W.iret (v := 0) hx hb hr (fun t ht hW => ⟨⟨0, (u9, uL μ 10 0 0 r9, al), rfl, ⟨(by rw [e9]), (by rw [e9]), (by rw [e9]; rfl), hag⟩, iv_giveH ht hI⟩, hS.F ht⟩) hS.2.2 dL_of_17

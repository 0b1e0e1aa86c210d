set_option maxHeartbeats 4000000 in
set_option maxRecDepth 100000 in
theorem k_neededFor (l : Launch) (D : va_G) (dA : Nat → ClassId) (sa : Nat → Nat) (lo : Nat) (al : Nat → Nat → Nat) (σ μ : CS) (i : Nat) (hi : i < nG σ) (x : Int64) : Met l yX2_neededFor wsX2_neededFor ({ frames := 0, cells := 0, slots := 0, locals := 0 }) (va_Pc [.ref (al 2 i), .long x] (ivP D dA sa lo al σ μ)) (vp_Sl (fun r => r = gNeed σ i x)) 0 0 (fun _ => False) := by
  refine Met.ofW (cc := cX2_neededFor) (maxL := 3) (ret := some .long) (by decide) rfl ?_
  intro p e s m args below meth c s₁ B hml hv
  obtain ⟨rfl, hI, hwd⟩ := hv
  have hx := B.exec
  have hb := B.bytes
  have hr := B.returns
  have hts : ∀ w ∈ WSall, w.before _ s = true := fun w h => atoms_spec (ws := wsX2_neededFor) B.pre w (List.mem_cons_of_mem _ h)
  have hown : s.vm.findClass RX2 = some m.cls := findClass_of_methodNamed B.named
  have hlocks := B.notSynchronized
  have hK := hwd.1
  have hS : va_S (fun q => lo ≤ q) s.heap s.heap [] := va_S.rf
  have hl := lv_entry ([.ref (al 2 i), .long x]) (n := 3) (Nat.le_of_ble_eq_true rfl)
  rw [lg_entry_eq]
  generalize (lg_sl ([.ref (al 2 i), .long x]) ++ List.replicate (3 - (lg_sl ([.ref (al 2 i), .long x])).length) Slot.unset).toArray = ls at hl ⊢
  have hl : lv_has ls 3 [(0, .ref (al 2 i)), (1, .long x)] := hl
  refine lv_aload_n hx hb dX2_neededFor_0 rfl (lv_at hl 0 rfl) ?_
  refine sx_get (ci := 2) (C := RX2) (T := TX2) (N := 2) (v := .int (fI σ 2 i 1)) hx hb hts inX2 hown hK (c2_at hI hi) rfl 1 (by decide) (hts _ w_2_43) rfl rfl dX2_neededFor_1 ?_
  refine lv_if_ne (tgt := 11) hx hb dX2_neededFor_4 (by decide) (fun c_4 => ?_) (fun c_4 => ?_)
  · refine lv_lload_n hx hb dX2_neededFor_11 rfl (lv_at hl 1 rfl) ?_
    refine lv_aload_n hx hb dX2_neededFor_12 rfl (lv_at hl 0 rfl) ?_
    refine sx_get (ci := 2) (C := RX2) (T := TX2) (N := 2) (v := .int (fI σ 2 i 0)) hx hb hts inX2 hown hK (c2_at hI hi) rfl 0 (by decide) (hts _ w_2_42) rfl rfl dX2_neededFor_13 ?_
    refine lv_i2l hx hb dX2_neededFor_16 rfl ?_
    refine lv_lmul hx hb dX2_neededFor_17 ?_
    refine lv_aload_n hx hb dX2_neededFor_18 rfl (lv_at hl 0 rfl) ?_
    refine sx_get (ci := 2) (C := RX2) (T := TX2) (N := 2) (v := .int (fI σ 2 i 1)) hx hb hts inX2 hown hK (c2_at hI hi) rfl 1 (by decide) (hts _ w_2_43) rfl rfl dX2_neededFor_19 ?_
    refine lv_i2l hx hb dX2_neededFor_22 rfl ?_
    refine lv_ladd hx hb dX2_neededFor_23 ?_
    refine lv_lconst (v := 1) hx hb dX2_neededFor_24 (by decide) ?_
    refine lv_lsub hx hb dX2_neededFor_25 ?_
    refine lv_aload_n hx hb dX2_neededFor_26 rfl (lv_at hl 0 rfl) ?_
    refine sx_get (ci := 2) (C := RX2) (T := TX2) (N := 2) (v := .int (fI σ 2 i 1)) hx hb hts inX2 hown hK (c2_at hI hi) rfl 1 (by decide) (hts _ w_2_43) rfl rfl dX2_neededFor_27 ?_
    refine lv_i2l hx hb dX2_neededFor_30 rfl ?_
    refine lv_ldiv hx hb dX2_neededFor_31 (fun h => c_4 (i64_0 h)) ?_
    exact W.lret (v := (((x * (fI σ 2 i 0).toInt64) + (fI σ 2 i 1).toInt64) - 1) / (fI σ 2 i 1).toInt64) hx hb hr (fun t ht hW => ⟨_, rfl, by simp [gNeed, sNeed, c_4], ht⟩) (fun q h => by cases h) dX2_neededFor_32
  · refine lv_lconst (v := 0) hx hb dX2_neededFor_7 (by decide) ?_
    refine lv_goto (tgt := 32) hx hb dX2_neededFor_8 (by decide) ?_
    exact W.lret (v := 0) hx hb hr (fun t ht hW => ⟨_, rfl, by simp [gNeed, sNeed, c_4], ht⟩) (fun q h => by cases h) dX2_neededFor_32

set_option maxHeartbeats 4000000 in
set_option maxRecDepth 100000 in
theorem k_mostFor (l : Launch) (D : va_G) (dA : Nat → ClassId) (sa : Nat → Nat) (lo : Nat) (al : Nat → Nat → Nat) (σ μ : CS) (i : Nat) (hi : i < nG σ) (x : Int64) : Met l yX2_mostFor wsX2_mostFor ({ frames := 0, cells := 0, slots := 0, locals := 0 }) (va_Pc [.ref (al 2 i), .long x] (ivP D dA sa lo al σ μ)) (vp_Sl (fun r => r = sMost (fI σ 2 i 0) (fI σ 2 i 1) x)) 0 0 (fun _ => False) := by
  refine Met.ofW (cc := cX2_mostFor) (maxL := 3) (ret := some .long) (by decide) rfl ?_
  intro p e s m args below meth c s₁ B hml hv
  obtain ⟨rfl, hI, hwd⟩ := hv
  have hx := B.exec
  have hb := B.bytes
  have hr := B.returns
  have hts : ∀ w ∈ WSall, w.before _ s = true := fun w h => atoms_spec (ws := wsX2_mostFor) B.pre w (List.mem_cons_of_mem _ h)
  have hown : s.vm.findClass RX2 = some m.cls := findClass_of_methodNamed B.named
  have hlocks := B.notSynchronized
  have hK := hwd.1
  have hS : va_S (fun q => lo ≤ q) s.heap s.heap [] := va_S.rf
  have hl := lv_entry ([.ref (al 2 i), .long x]) (n := 3) (Nat.le_of_ble_eq_true rfl)
  rw [lg_entry_eq]
  generalize (lg_sl ([.ref (al 2 i), .long x]) ++ List.replicate (3 - (lg_sl ([.ref (al 2 i), .long x])).length) Slot.unset).toArray = ls at hl ⊢
  have hl : lv_has ls 3 [(0, .ref (al 2 i)), (1, .long x)] := hl
  refine lv_aload_n hx hb dX2_mostFor_0 rfl (lv_at hl 0 rfl) ?_
  refine sx_get (ci := 2) (C := RX2) (T := TX2) (N := 2) (v := .int (fI σ 2 i 0)) hx hb hts inX2 hown hK (c2_at hI hi) rfl 0 (by decide) (hts _ w_2_42) rfl rfl dX2_mostFor_1 ?_
  refine lv_if_ne (tgt := 13) hx hb dX2_mostFor_4 (by decide) (fun c_4 => ?_) (fun c_4 => ?_)
  · refine lv_lload_n hx hb dX2_mostFor_13 rfl (lv_at hl 1 rfl) ?_
    refine lv_aload_n hx hb dX2_mostFor_14 rfl (lv_at hl 0 rfl) ?_
    refine sx_get (ci := 2) (C := RX2) (T := TX2) (N := 2) (v := .int (fI σ 2 i 1)) hx hb hts inX2 hown hK (c2_at hI hi) rfl 1 (by decide) (hts _ w_2_43) rfl rfl dX2_mostFor_15 ?_
    refine lv_i2l hx hb dX2_mostFor_18 rfl ?_
    refine lv_lmul hx hb dX2_mostFor_19 ?_
    refine lv_aload_n hx hb dX2_mostFor_20 rfl (lv_at hl 0 rfl) ?_
    refine sx_get (ci := 2) (C := RX2) (T := TX2) (N := 2) (v := .int (fI σ 2 i 0)) hx hb hts inX2 hown hK (c2_at hI hi) rfl 0 (by decide) (hts _ w_2_42) rfl rfl dX2_mostFor_21 ?_
    refine lv_i2l hx hb dX2_mostFor_24 rfl ?_
    refine lv_ldiv hx hb dX2_mostFor_25 (fun h => c_4 (i64_0 h)) ?_
    exact W.lret (v := (x * (fI σ 2 i 1).toInt64) / (fI σ 2 i 0).toInt64) hx hb hr (fun t ht hW => ⟨_, rfl, by simp [sMost, c_4], ht⟩) (fun q h => by cases h) dX2_mostFor_26
  · refine lv_ldc2 (v := 1000000000) hx hb hown (hts _ w_1_161) dX2_mostFor_7 ?_
    refine lv_goto (tgt := 26) hx hb dX2_mostFor_10 (by decide) ?_
    exact W.lret (v := 1000000000) hx hb hr (fun t ht hW => ⟨_, rfl, by simp [sMost, c_4], ht⟩) (fun q h => by cases h) dX2_mostFor_26

set_option maxHeartbeats 4000000 in
set_option maxRecDepth 100000 in
theorem k_upTo (l : Launch) (D : va_G) (dA : Nat → ClassId) (sa : Nat → Nat) (lo : Nat) (al : Nat → Nat → Nat) (σ μ : CS) (i : Nat) (hi : i < nG σ) (day : Int32) (am : Int64) : Met l yX3_upTo wsX3_upTo ({ frames := 0, cells := 0, slots := 0, locals := 0 }) (va_Pc [.ref (al 3 i), .int day, .long am] (ivP D dA sa lo al σ μ)) (vp_Sl (fun r => r = nUp σ i day am)) 0 0 (fun _ => False) := by
  refine Met.ofW (cc := cX3_upTo) (maxL := 4) (ret := some .long) (by decide) rfl ?_
  intro p e s m args below meth c s₁ B hml hv
  obtain ⟨rfl, hI, hwd⟩ := hv
  have hx := B.exec
  have hb := B.bytes
  have hr := B.returns
  have hts : ∀ w ∈ WSall, w.before _ s = true := fun w h => atoms_spec (ws := wsX3_upTo) B.pre w (List.mem_cons_of_mem _ h)
  have hown : s.vm.findClass RX3 = some m.cls := findClass_of_methodNamed B.named
  have hlocks := B.notSynchronized
  have hK := hwd.1
  have hS : va_S (fun q => lo ≤ q) s.heap s.heap [] := va_S.rf
  have hl := lv_entry ([.ref (al 3 i), .int day, .long am]) (n := 4) (Nat.le_of_ble_eq_true rfl)
  rw [lg_entry_eq]
  generalize (lg_sl ([.ref (al 3 i), .int day, .long am]) ++ List.replicate (4 - (lg_sl ([.ref (al 3 i), .int day, .long am])).length) Slot.unset).toArray = ls at hl ⊢
  have hl : lv_has ls 4 [(0, .ref (al 3 i)), (1, .int day), (2, .long am)] := hl
  refine lv_aload_n hx hb dX3_upTo_0 rfl (lv_at hl 0 rfl) ?_
  refine sx_get (ci := 3) (C := RX3) (T := TX3) (N := 4) (v := .int (fI σ 3 i 3)) hx hb hts inX3 hown hK (c3_at hI hi) rfl 3 (by decide) (hts _ w_2_58) rfl rfl dX3_upTo_1 ?_
  refine lv_if_eq (tgt := 14) hx hb dX3_upTo_4 (by decide) (fun c_4 => ?_) (fun c_4 => ?_)
  · refine lv_aload_n hx hb dX3_upTo_14 rfl (lv_at hl 0 rfl) ?_
    refine sx_get (ci := 3) (C := RX3) (T := TX3) (N := 4) (v := .long (fL σ 3 i 1)) hx hb hts inX3 hown hK (c3_at hI hi) rfl 1 (by decide) (hts _ w_2_56) rfl rfl dX3_upTo_15 ?_
    refine lv_lload_n hx hb dX3_upTo_18 rfl (lv_at hl 2 rfl) ?_
    refine lv_aload_n hx hb dX3_upTo_19 rfl (lv_at hl 0 rfl) ?_
    refine sx_get (ci := 3) (C := RX3) (T := TX3) (N := 4) (v := .int (fI σ 3 i 0)) hx hb hts inX3 hown hK (c3_at hI hi) rfl 0 (by decide) (hts _ w_2_55) rfl rfl dX3_upTo_20 ?_
    refine lv_i2l hx hb dX3_upTo_23 rfl ?_
    refine lv_lmul hx hb dX3_upTo_24 ?_
    refine lv_iload_n hx hb dX3_upTo_25 rfl (lv_at hl 1 rfl) ?_
    refine lv_aload_n hx hb dX3_upTo_26 rfl (lv_at hl 0 rfl) ?_
    refine sx_get (ci := 3) (C := RX3) (T := TX3) (N := 4) (v := .int (fI σ 3 i 2)) hx hb hts inX3 hown hK (c3_at hI hi) rfl 2 (by decide) (hts _ w_2_57) rfl rfl dX3_upTo_27 ?_
    refine lv_isub hx hb dX3_upTo_30 ?_
    refine lv_i2l hx hb dX3_upTo_31 rfl ?_
    refine lv_lmul hx hb dX3_upTo_32 ?_
    refine lv_ldc2 (v := 3650000) hx hb hown (hts _ w_1_122) dX3_upTo_33 ?_
    refine lv_ldiv hx hb dX3_upTo_36 (by decide) ?_
    refine lv_ladd hx hb dX3_upTo_37 ?_
    exact W.lret (v := (fL σ 3 i 1) + (((am * (fI σ 3 i 0).toInt64) * (day - (fI σ 3 i 2)).toInt64) / 3650000)) hx hb hr (fun t ht hW => ⟨_, rfl, by simp [nUp, c_4], ht⟩) (fun q h => by cases h) dX3_upTo_38
  · refine lv_aload_n hx hb dX3_upTo_7 rfl (lv_at hl 0 rfl) ?_
    refine sx_get (ci := 3) (C := RX3) (T := TX3) (N := 4) (v := .long (fL σ 3 i 1)) hx hb hts inX3 hown hK (c3_at hI hi) rfl 1 (by decide) (hts _ w_2_56) rfl rfl dX3_upTo_8 ?_
    refine lv_goto (tgt := 38) hx hb dX3_upTo_11 (by decide) ?_
    exact W.lret (v := fL σ 3 i 1) hx hb hr (fun t ht hW => ⟨_, rfl, by simp [nUp, c_4], ht⟩) (fun q h => by cases h) dX3_upTo_38

set_option maxHeartbeats 4000000 in
set_option maxRecDepth 100000 in
theorem k_endRow (l : Launch) (D : va_G) (dA : Nat → ClassId) (sa : Nat → Nat) (lo : Nat) (al : Nat → Nat → Nat) (σ μ : CS) (i : Nat) (hi : i < nG σ) (day : Int32) (am : Int64) : Met l yX3_endRow wsX3_endRow ({ frames := 1, cells := 0, slots := 0, locals := 30 }) (va_Pc [.ref (al 3 i), .int day, .long am] (ivP D dA sa lo al σ μ)) (va_Qv (fun u => u = nEnd σ i day am) (ivB D dA lo al μ) (fun q => lo ≤ q)) 0 0 (fun q => lo ≤ q) := by
  refine Met.ofW (cc := cX3_endRow) (maxL := 4) (ret := none) (by decide) rfl ?_
  intro p e s m args below meth c s₁ B hml hv
  obtain ⟨rfl, hI, hwd⟩ := hv
  have hx := B.exec
  have hb := B.bytes
  have hr := B.returns
  have hts : ∀ w ∈ WSall, w.before _ s = true := fun w h => atoms_spec (ws := wsX3_endRow) B.pre w (List.mem_cons_of_mem _ h)
  have hown : s.vm.findClass RX3 = some m.cls := findClass_of_methodNamed B.named
  have hlocks := B.notSynchronized
  have hK := hwd.1
  have hS : va_S (fun q => lo ≤ q) s.heap s.heap [] := va_S.rf
  have hl := lv_entry ([.ref (al 3 i), .int day, .long am]) (n := 4) (Nat.le_of_ble_eq_true rfl)
  rw [lg_entry_eq]
  generalize (lg_sl ([.ref (al 3 i), .int day, .long am]) ++ List.replicate (4 - (lg_sl ([.ref (al 3 i), .int day, .long am])).length) Slot.unset).toArray = ls at hl ⊢
  have hl : lv_has ls 4 [(0, .ref (al 3 i)), (1, .int day), (2, .long am)] := hl
  refine lv_aload_n hx hb dX3_endRow_0 rfl (lv_at hl 0 rfl) ?_
  refine lv_aload_n hx hb dX3_endRow_1 rfl (lv_at hl 0 rfl) ?_
  refine lv_iload_n hx hb dX3_endRow_2 rfl (lv_at hl 1 rfl) ?_
  refine lv_lload_n hx hb dX3_endRow_3 rfl (lv_at hl 2 rfl) ?_
  refine vp_callSl (W.runV (As := [.int day, .long am]) (rest := [.ref (al 3 i)]) ⟨hx, hb, hml, hown, hts⟩ (k_upTo l D dA sa lo al σ μ i hi day am) (cwV 2 hts (gdV w_1_118 w_1_119 w_1_120 w_1_11 w_1_121) rfl rfl rfl (by decide +kernel) ⟨Nat.le_of_ble_eq_true rfl, Nat.le_of_ble_eq_true rfl⟩) ⟨iv_bl, sx_recv hK (c3_at hI hi) rfl, fun U hU hW => ⟨rfl, iv_use hI hwd hS hU hW⟩⟩ rfl rfl hl.1 rfl (lv_room (Nat.le_of_ble_eq_true rfl)) dX3_endRow_4 ⟨Nat.le_of_ble_eq_true rfl, Nat.le_of_ble_eq_true rfl⟩) (fun r_4 e_4 => ?_)
  subst e_4
  refine sx_put (ci := 3) (v := .long (nUp σ i day am)) (ty := .long) (C := RX3) (T := TX3) (N := 4) hx hb hts inX3 tyX3 okX3 nmX3 hown hK hS (c3_at hI hi) (c3_lo hI hi) rfl 1 (by decide) (hts _ w_2_56) rfl rfl (by decide +kernel) rfl rfl (Nat.le_of_ble_eq_true rfl) dX3_endRow_7 (fun H locs hq => ?_)
  have hI := c3_uL (f := 1) (v := nUp σ i day am) hI hi rfl hq
  have hS := hq.2.2.2
  refine lv_aload_n hx hb dX3_endRow_10 rfl (lv_at hl 0 rfl) ?_
  refine lv_iload_n hx hb dX3_endRow_11 rfl (lv_at hl 1 rfl) ?_
  refine sx_put (ci := 3) (v := .int day) (ty := .int) (C := RX3) (T := TX3) (N := 4) hx hb hts inX3 tyX3 okX3 nmX3 hown hK hS (c3_at hI hi) (c3_lo hI hi) rfl 2 (by decide) (hts _ w_2_57) rfl rfl (by decide +kernel) rfl rfl (Nat.le_of_ble_eq_true rfl) dX3_endRow_12 (fun H locs hq => ?_)
  have hI := c3_uI (f := 2) (v := day) hI hi rfl hq
  have hS := hq.2.2.2
  exact W.vret hx hb hr (fun t ht hW => ⟨⟨uI (uL σ 3 i 1 (nUp σ i day am)) 3 i 2 day, rfl, rfl, iv_give ht hI⟩, hS.F ht⟩) hS.2.2 dX3_endRow_15

set_option maxHeartbeats 4000000 in
set_option maxRecDepth 100000 in
theorem k_stop (l : Launch) (D : va_G) (dA : Nat → ClassId) (sa : Nat → Nat) (lo : Nat) (al : Nat → Nat → Nat) (σ μ : CS) (i : Nat) (hi : i < nG σ) (day : Int32) (am : Int64) : Met l yX3_stop wsX3_stop ({ frames := 2, cells := 0, slots := 0, locals := 60 }) (va_Pc [.ref (al 3 i), .int day, .long am] (ivP D dA sa lo al σ μ)) (va_Qv (fun u => u = nStop σ i day am) (ivB D dA lo al μ) (fun q => lo ≤ q)) 0 0 (fun q => lo ≤ q) := by
  refine Met.ofW (cc := cX3_stop) (maxL := 4) (ret := none) (by decide) rfl ?_
  intro p e s m args below meth c s₁ B hml hv
  obtain ⟨rfl, hI, hwd⟩ := hv
  have hx := B.exec
  have hb := B.bytes
  have hr := B.returns
  have hts : ∀ w ∈ WSall, w.before _ s = true := fun w h => atoms_spec (ws := wsX3_stop) B.pre w (List.mem_cons_of_mem _ h)
  have hown : s.vm.findClass RX3 = some m.cls := findClass_of_methodNamed B.named
  have hlocks := B.notSynchronized
  have hK := hwd.1
  have hS : va_S (fun q => lo ≤ q) s.heap s.heap [] := va_S.rf
  have hl := lv_entry ([.ref (al 3 i), .int day, .long am]) (n := 4) (Nat.le_of_ble_eq_true rfl)
  rw [lg_entry_eq]
  generalize (lg_sl ([.ref (al 3 i), .int day, .long am]) ++ List.replicate (4 - (lg_sl ([.ref (al 3 i), .int day, .long am])).length) Slot.unset).toArray = ls at hl ⊢
  have hl : lv_has ls 4 [(0, .ref (al 3 i)), (1, .int day), (2, .long am)] := hl
  refine lv_aload_n hx hb dX3_stop_0 rfl (lv_at hl 0 rfl) ?_
  refine lv_iload_n hx hb dX3_stop_1 rfl (lv_at hl 1 rfl) ?_
  refine lv_lload_n hx hb dX3_stop_2 rfl (lv_at hl 2 rfl) ?_
  refine va_callv (va_runV (As := [.int day, .long am]) (rest := []) ⟨hx, hb, hml, hown, hts⟩ (k_endRow l D dA sa lo al σ μ i hi day am) (cwV 2 hts (gdV w_1_114 w_1_115 w_1_116 w_1_11 w_1_117) rfl rfl rfl (by decide +kernel) ⟨Nat.le_of_ble_eq_true rfl, Nat.le_of_ble_eq_true rfl⟩) ⟨iv_bl, sx_recv hK (c3_at hI hi) rfl, fun U hU hW => ⟨rfl, iv_use hI hwd hS hU hW⟩⟩ rfl rfl hl.1 rfl (lv_room (Nat.le_of_ble_eq_true rfl)) dX3_stop_3 ⟨Nat.le_of_ble_eq_true rfl, Nat.le_of_ble_eq_true rfl⟩) hS (fun q _ h => h) (fun q h => h) (fun u9 T9 H1 locs ht9 hvm9 e_3 hB9 hz9 hk9 hS => ?_)
  have hI := iv_take ht9 hB9
  clear hB9 hk9
  obtain rfl := e_3
  refine lv_aload_n hx hb dX3_stop_6 rfl (lv_at hl 0 rfl) ?_
  refine lv_iconst (v := 1) hx hb dX3_stop_7 (by decide) ?_
  refine sx_put (ci := 3) (v := .int 1) (ty := .boolean) (C := RX3) (T := TX3) (N := 4) hx hb hts inX3 tyX3 okX3 nmX3 hown hK hS (c3_at hI hi) (c3_lo hI hi) rfl 3 (by decide) (hts _ w_2_58) rfl rfl (by decide +kernel) rfl rfl (Nat.le_of_ble_eq_true rfl) dX3_stop_8 (fun H locs hq => ?_)
  have hI := c3_uI (f := 3) (v := 1) hI hi rfl hq
  have hS := hq.2.2.2
  exact W.vret hx hb hr (fun t ht hW => ⟨⟨uI (nEnd σ i day am) 3 i 3 1, rfl, rfl, iv_give ht hI⟩, hS.F ht⟩) hS.2.2 dX3_stop_11

set_option maxHeartbeats 4000000 in
set_option maxRecDepth 100000 in
theorem k_unneeded (l : Launch) (D : va_G) (dA : Nat → ClassId) (sa : Nat → Nat) (lo : Nat) (al : Nat → Nat → Nat) (σ μ : CS) (i : Nat) (hi : i < nG σ) : Met l yX1_unneeded wsX1_unneeded ({ frames := 1, cells := 0, slots := 0, locals := 30 }) (va_Pc [.ref (al 1 i)] (ivP D dA sa lo al σ μ)) (vp_Sl (fun r => r = gUnn σ i)) 0 0 (fun _ => False) := by
  refine Met.ofW (cc := cX1_unneeded) (maxL := 1) (ret := some .long) (by decide) rfl ?_
  intro p e s m args below meth c s₁ B hml hv
  obtain ⟨rfl, hI, hwd⟩ := hv
  have hx := B.exec
  have hb := B.bytes
  have hr := B.returns
  have hts : ∀ w ∈ WSall, w.before _ s = true := fun w h => atoms_spec (ws := wsX1_unneeded) B.pre w (List.mem_cons_of_mem _ h)
  have hown : s.vm.findClass RX1 = some m.cls := findClass_of_methodNamed B.named
  have hlocks := B.notSynchronized
  have hK := hwd.1
  have hS : va_S (fun q => lo ≤ q) s.heap s.heap [] := va_S.rf
  have hl := lv_entry ([.ref (al 1 i)]) (n := 1) (Nat.le_of_ble_eq_true rfl)
  rw [lg_entry_eq]
  generalize (lg_sl ([.ref (al 1 i)]) ++ List.replicate (1 - (lg_sl ([.ref (al 1 i)])).length) Slot.unset).toArray = ls at hl ⊢
  have hl : lv_has ls 1 [(0, .ref (al 1 i))] := hl
  refine lv_lconst (v := 0) hx hb dX1_unneeded_0 (by decide) ?_
  refine lv_aload_n hx hb dX1_unneeded_1 rfl (lv_at hl 0 rfl) ?_
  refine sx_get (ci := 1) (C := RX1) (T := TX1) (N := 11) (v := .long (fL σ 1 i 5)) hx hb hts inX1 hown hK (c1_at hI hi) rfl 5 (by decide) (hts _ w_2_81) rfl rfl dX1_unneeded_2 ?_
  refine lv_aload_n hx hb dX1_unneeded_5 rfl (lv_at hl 0 rfl) ?_
  refine sx_get (ci := 1) (C := RX1) (T := TX1) (N := 11) (v := .long (fL σ 1 i 6)) hx hb hts inX1 hown hK (c1_at hI hi) rfl 6 (by decide) (hts _ w_2_83) rfl rfl dX1_unneeded_6 ?_
  refine lv_lsub hx hb dX1_unneeded_9 ?_
  refine va_mmax_long hx hb (hml.trans hl.1.symm) hown (hts _ w_1_154) (hts _ w_1_155) (hts _ w_1_12) (hts _ wm_max_long) (Nat.le_of_ble_eq_true rfl) (Nat.le_of_ble_eq_true rfl) (Nat.le_of_ble_eq_true rfl) (Nat.le_of_ble_eq_true rfl) dX1_unneeded_10 ?_
  exact W.lret (v := if ((fL σ 1 i 5) - (fL σ 1 i 6)) < 0 then 0 else ((fL σ 1 i 5) - (fL σ 1 i 6))) hx hb hr (fun t ht hW => ⟨_, rfl, rfl, ht⟩) (fun q h => by cases h) dX1_unneeded_13

set_option maxHeartbeats 4000000 in
set_option maxRecDepth 100000 in
theorem k_risk (l : Launch) (D : va_G) (dA : Nat → ClassId) (sa : Nat → Nat) (lo : Nat) (al : Nat → Nat → Nat) (σ μ : CS) (i : Nat) (hi : i < nG σ) : Met l yX1_risk wsX1_risk ({ frames := 1, cells := 0, slots := 0, locals := 30 }) (va_Pc [.ref (al 1 i)] (ivP D dA sa lo al σ μ)) (vp_Sl (fun r => r = gRisk σ i)) 0 0 (fun _ => False) := by
  refine Met.ofW (cc := cX1_risk) (maxL := 1) (ret := some .long) (by decide) rfl ?_
  intro p e s m args below meth c s₁ B hml hv
  obtain ⟨rfl, hI, hwd⟩ := hv
  have hx := B.exec
  have hb := B.bytes
  have hr := B.returns
  have hts : ∀ w ∈ WSall, w.before _ s = true := fun w h => atoms_spec (ws := wsX1_risk) B.pre w (List.mem_cons_of_mem _ h)
  have hown : s.vm.findClass RX1 = some m.cls := findClass_of_methodNamed B.named
  have hlocks := B.notSynchronized
  have hK := hwd.1
  have hS : va_S (fun q => lo ≤ q) s.heap s.heap [] := va_S.rf
  have hl := lv_entry ([.ref (al 1 i)]) (n := 1) (Nat.le_of_ble_eq_true rfl)
  rw [lg_entry_eq]
  generalize (lg_sl ([.ref (al 1 i)]) ++ List.replicate (1 - (lg_sl ([.ref (al 1 i)])).length) Slot.unset).toArray = ls at hl ⊢
  have hl : lv_has ls 1 [(0, .ref (al 1 i))] := hl
  refine lv_lconst (v := 0) hx hb dX1_risk_0 (by decide) ?_
  refine lv_aload_n hx hb dX1_risk_1 rfl (lv_at hl 0 rfl) ?_
  refine sx_get (ci := 1) (C := RX1) (T := TX1) (N := 11) (v := .long (fL σ 1 i 6)) hx hb hts inX1 hown hK (c1_at hI hi) rfl 6 (by decide) (hts _ w_2_83) rfl rfl dX1_risk_2 ?_
  refine lv_aload_n hx hb dX1_risk_5 rfl (lv_at hl 0 rfl) ?_
  refine sx_get (ci := 1) (C := RX1) (T := TX1) (N := 11) (v := .long (fL σ 1 i 5)) hx hb hts inX1 hown hK (c1_at hI hi) rfl 5 (by decide) (hts _ w_2_81) rfl rfl dX1_risk_6 ?_
  refine lv_lsub hx hb dX1_risk_9 ?_
  refine va_mmax_long hx hb (hml.trans hl.1.symm) hown (hts _ w_1_154) (hts _ w_1_155) (hts _ w_1_12) (hts _ wm_max_long) (Nat.le_of_ble_eq_true rfl) (Nat.le_of_ble_eq_true rfl) (Nat.le_of_ble_eq_true rfl) (Nat.le_of_ble_eq_true rfl) dX1_risk_10 ?_
  exact W.lret (v := if ((fL σ 1 i 6) - (fL σ 1 i 5)) < 0 then 0 else ((fL σ 1 i 6) - (fL σ 1 i 5))) hx hb hr (fun t ht hW => ⟨_, rfl, rfl, ht⟩) (fun q h => by cases h) dX1_risk_13

set_option maxHeartbeats 4000000 in
set_option maxRecDepth 100000 in
theorem k_mayCover (l : Launch) (D : va_G) (dA : Nat → ClassId) (sa : Nat → Nat) (lo : Nat) (al : Nat → Nat → Nat) (σ μ : CS) (i : Nat) (hi : i < nG σ) : Met l yX1_mayCover wsX1_mayCover ({ frames := 2, cells := 0, slots := 0, locals := 60 }) (va_Pc [.ref (al 1 i)] (ivP D dA sa lo al σ μ)) (vp_Sl (fun r => r = gMay σ i)) 0 0 (fun _ => False) := by
  refine Met.ofW (cc := cX1_mayCover) (maxL := 1) (ret := some .long) (by decide) rfl ?_
  intro p e s m args below meth c s₁ B hml hv
  obtain ⟨rfl, hI, hwd⟩ := hv
  have hx := B.exec
  have hb := B.bytes
  have hr := B.returns
  have hts : ∀ w ∈ WSall, w.before _ s = true := fun w h => atoms_spec (ws := wsX1_mayCover) B.pre w (List.mem_cons_of_mem _ h)
  have hown : s.vm.findClass RX1 = some m.cls := findClass_of_methodNamed B.named
  have hlocks := B.notSynchronized
  have hK := hwd.1
  have hS : va_S (fun q => lo ≤ q) s.heap s.heap [] := va_S.rf
  have hl := lv_entry ([.ref (al 1 i)]) (n := 1) (Nat.le_of_ble_eq_true rfl)
  rw [lg_entry_eq]
  generalize (lg_sl ([.ref (al 1 i)]) ++ List.replicate (1 - (lg_sl ([.ref (al 1 i)])).length) Slot.unset).toArray = ls at hl ⊢
  have hl : lv_has ls 1 [(0, .ref (al 1 i))] := hl
  refine lv_aload_n hx hb dX1_mayCover_0 rfl (lv_at hl 0 rfl) ?_
  refine sx_get (ci := 1) (C := RX1) (T := TX1) (N := 11) (v := .int (fI σ 1 i 9)) hx hb hts inX1 hown hK (c1_at hI hi) rfl 9 (by decide) (hts _ w_2_89) rfl rfl dX1_mayCover_1 ?_
  refine lv_if_ne (tgt := 21) hx hb dX1_mayCover_4 (by decide) (fun c_4 => ?_) (fun c_4 => ?_)
  · refine lv_lconst (v := 0) hx hb dX1_mayCover_21 (by decide) ?_
    refine lv_goto (tgt := 36) hx hb dX1_mayCover_22 (by decide) ?_
    exact W.lret (v := 0) hx hb hr (fun t ht hW => ⟨_, rfl, by simp [gMay, c_4], ht⟩) (fun q h => by cases h) dX1_mayCover_36
  · refine lv_aload_n hx hb dX1_mayCover_7 rfl (lv_at hl 0 rfl) ?_
    refine sx_get (ci := 1) (C := RX1) (T := TX1) (N := 11) (v := .int (fI σ 1 i 3)) hx hb hts inX1 hown hK (c1_at hI hi) rfl 3 (by decide) (hts _ w_2_78) rfl rfl dX1_mayCover_8 ?_
    refine lv_if_eq (tgt := 25) hx hb dX1_mayCover_11 (by decide) (fun c_11 => ?_) (fun c_11 => ?_)
    · refine lv_aload_n hx hb dX1_mayCover_25 rfl (lv_at hl 0 rfl) ?_
      refine sx_get (ci := 1) (C := RX1) (T := TX1) (N := 11) (v := .ref (al 2 i)) hx hb hts inX1 hown hK (c1_at hI hi) rfl 2 (by decide) (hts _ w_2_77) rfl rfl dX1_mayCover_26 ?_
      refine lv_aload_n hx hb dX1_mayCover_29 rfl (lv_at hl 0 rfl) ?_
      refine vp_callSl (W.runV (As := []) (rest := [.ref (al 2 i)]) ⟨hx, hb, hml, hown, hts⟩ (k_unneeded l D dA sa lo al σ μ i hi ) (cwV 0 hts (gdV w_1_150 w_1_151 w_1_152 w_1_9 w_1_153) rfl rfl rfl (by decide +kernel) ⟨Nat.le_of_ble_eq_true rfl, Nat.le_of_ble_eq_true rfl⟩) ⟨iv_bl, sx_recv hK (c1_at hI hi) rfl, fun U hU hW => ⟨rfl, iv_use hI hwd hS hU hW⟩⟩ rfl rfl hl.1 rfl (lv_room (Nat.le_of_ble_eq_true rfl)) dX1_mayCover_30 ⟨Nat.le_of_ble_eq_true rfl, Nat.le_of_ble_eq_true rfl⟩) (fun r_30 e_30 => ?_)
      subst e_30
      refine vp_callSl (W.runV (As := [.long (gUnn σ i)]) (rest := []) ⟨hx, hb, hml, hown, hts⟩ (k_mostFor l D dA sa lo al σ μ i hi (gUnn σ i)) (cwV 1 hts (gdV w_1_157 w_1_158 w_1_159 w_1_10 w_1_160) rfl rfl rfl (by decide +kernel) ⟨Nat.le_of_ble_eq_true rfl, Nat.le_of_ble_eq_true rfl⟩) ⟨iv_bl, sx_recv hK (c2_at hI hi) rfl, fun U hU hW => ⟨rfl, iv_use hI hwd hS hU hW⟩⟩ rfl rfl hl.1 rfl (lv_room (Nat.le_of_ble_eq_true rfl)) dX1_mayCover_33 ⟨Nat.le_of_ble_eq_true rfl, Nat.le_of_ble_eq_true rfl⟩) (fun r_33 e_33 => ?_)
      subst e_33
      exact W.lret (v := sMost (fI σ 2 i 0) (fI σ 2 i 1) (gUnn σ i)) hx hb hr (fun t ht hW => ⟨_, rfl, by simp [gMay, c_4, c_11], ht⟩) (fun q h => by cases h) dX1_mayCover_36
    · refine lv_aload_n hx hb dX1_mayCover_14 rfl (lv_at hl 0 rfl) ?_
      refine sx_get (ci := 1) (C := RX1) (T := TX1) (N := 11) (v := .int (fI σ 1 i 8)) hx hb hts inX1 hown hK (c1_at hI hi) rfl 8 (by decide) (hts _ w_2_87) rfl rfl dX1_mayCover_15 ?_
      refine lv_if_le (tgt := 25) hx hb dX1_mayCover_18 (by decide) (fun c_18 => ?_) (fun c_18 => ?_)
      · refine lv_aload_n hx hb dX1_mayCover_25 rfl (lv_at hl 0 rfl) ?_
        refine sx_get (ci := 1) (C := RX1) (T := TX1) (N := 11) (v := .ref (al 2 i)) hx hb hts inX1 hown hK (c1_at hI hi) rfl 2 (by decide) (hts _ w_2_77) rfl rfl dX1_mayCover_26 ?_
        refine lv_aload_n hx hb dX1_mayCover_29 rfl (lv_at hl 0 rfl) ?_
        refine vp_callSl (W.runV (As := []) (rest := [.ref (al 2 i)]) ⟨hx, hb, hml, hown, hts⟩ (k_unneeded l D dA sa lo al σ μ i hi ) (cwV 0 hts (gdV w_1_150 w_1_151 w_1_152 w_1_9 w_1_153) rfl rfl rfl (by decide +kernel) ⟨Nat.le_of_ble_eq_true rfl, Nat.le_of_ble_eq_true rfl⟩) ⟨iv_bl, sx_recv hK (c1_at hI hi) rfl, fun U hU hW => ⟨rfl, iv_use hI hwd hS hU hW⟩⟩ rfl rfl hl.1 rfl (lv_room (Nat.le_of_ble_eq_true rfl)) dX1_mayCover_30 ⟨Nat.le_of_ble_eq_true rfl, Nat.le_of_ble_eq_true rfl⟩) (fun r_30 e_30 => ?_)
        subst e_30
        refine vp_callSl (W.runV (As := [.long (gUnn σ i)]) (rest := []) ⟨hx, hb, hml, hown, hts⟩ (k_mostFor l D dA sa lo al σ μ i hi (gUnn σ i)) (cwV 1 hts (gdV w_1_157 w_1_158 w_1_159 w_1_10 w_1_160) rfl rfl rfl (by decide +kernel) ⟨Nat.le_of_ble_eq_true rfl, Nat.le_of_ble_eq_true rfl⟩) ⟨iv_bl, sx_recv hK (c2_at hI hi) rfl, fun U hU hW => ⟨rfl, iv_use hI hwd hS hU hW⟩⟩ rfl rfl hl.1 rfl (lv_room (Nat.le_of_ble_eq_true rfl)) dX1_mayCover_33 ⟨Nat.le_of_ble_eq_true rfl, Nat.le_of_ble_eq_true rfl⟩) (fun r_33 e_33 => ?_)
        subst e_33
        exact W.lret (v := sMost (fI σ 2 i 0) (fI σ 2 i 1) (gUnn σ i)) hx hb hr (fun t ht hW => ⟨_, rfl, by simp [gMay, c_4, c_11, c_18], ht⟩) (fun q h => by cases h) dX1_mayCover_36
      · refine lv_lconst (v := 0) hx hb dX1_mayCover_21 (by decide) ?_
        refine lv_goto (tgt := 36) hx hb dX1_mayCover_22 (by decide) ?_
        exact W.lret (v := 0) hx hb hr (fun t ht hW => ⟨_, rfl, by simp [gMay, c_4, c_11, c_18], ht⟩) (fun q h => by cases h) dX1_mayCover_36

set_option maxHeartbeats 4000000 in
set_option maxRecDepth 100000 in
theorem k_changePart (l : Launch) (D : va_G) (dA : Nat → ClassId) (sa : Nat → Nat) (lo : Nat) (al : Nat → Nat → Nat) (σ μ : CS) (i : Nat) (hi : i < nG σ) (b a : Int64) : Met l yX1_changePart wsX1_changePart ({ frames := 1, cells := 0, slots := 0, locals := 40 }) (va_Pc [.ref (al 1 i), .long b, .long a] (ivP D dA sa lo al σ μ)) (va_Qv (fun u => u = gChg σ i b a) (ivB D dA lo al μ) (fun q => lo ≤ q)) 0 0 (fun q => lo ≤ q) := by
  refine Met.ofW (cc := cX1_changePart) (maxL := 5) (ret := none) (by decide) rfl ?_
  intro p e s m args below meth c s₁ B hml hv
  obtain ⟨rfl, hI, hwd⟩ := hv
  have hx := B.exec
  have hb := B.bytes
  have hr := B.returns
  have hts : ∀ w ∈ WSall, w.before _ s = true := fun w h => atoms_spec (ws := wsX1_changePart) B.pre w (List.mem_cons_of_mem _ h)
  have hown : s.vm.findClass RX1 = some m.cls := findClass_of_methodNamed B.named
  have hlocks := B.notSynchronized
  have hK := hwd.1
  have hS : va_S (fun q => lo ≤ q) s.heap s.heap [] := va_S.rf
  have hl := lv_entry ([.ref (al 1 i), .long b, .long a]) (n := 5) (Nat.le_of_ble_eq_true rfl)
  rw [lg_entry_eq]
  generalize (lg_sl ([.ref (al 1 i), .long b, .long a]) ++ List.replicate (5 - (lg_sl ([.ref (al 1 i), .long b, .long a])).length) Slot.unset).toArray = ls at hl ⊢
  have hl : lv_has ls 5 [(0, .ref (al 1 i)), (1, .long b), (3, .long a)] := hl
  refine lv_aload_n hx hb dX1_changePart_0 rfl (lv_at hl 0 rfl) ?_
  refine lv_dup hx hb dX1_changePart_1 rfl ?_
  refine sx_get (ci := 1) (C := RX1) (T := TX1) (N := 11) (v := .long (fL σ 1 i 6)) hx hb hts inX1 hown hK (c1_at hI hi) rfl 6 (by decide) (hts _ w_2_83) rfl rfl dX1_changePart_2 ?_
  refine lv_aload_n hx hb dX1_changePart_5 rfl (lv_at hl 0 rfl) ?_
  refine sx_get (ci := 1) (C := RX1) (T := TX1) (N := 11) (v := .ref (al 2 i)) hx hb hts inX1 hown hK (c1_at hI hi) rfl 2 (by decide) (hts _ w_2_77) rfl rfl dX1_changePart_6 ?_
  refine lv_lload_n hx hb dX1_changePart_9 rfl (lv_at hl 2 rfl) ?_
  refine vp_callSl (W.runV (As := [.long a]) (rest := [.long (fL σ 1 i 6), .ref (al 1 i)]) ⟨hx, hb, hml, hown, hts⟩ (k_neededFor l D dA sa lo al σ μ i hi a) (cwV 1 hts (gdV w_2_157 w_2_158 w_2_159 w_1_10 w_2_160) rfl rfl rfl (by decide +kernel) ⟨Nat.le_of_ble_eq_true rfl, Nat.le_of_ble_eq_true rfl⟩) ⟨iv_bl, sx_recv hK (c2_at hI hi) rfl, fun U hU hW => ⟨rfl, iv_use hI hwd hS hU hW⟩⟩ rfl rfl hl.1 rfl (lv_room (Nat.le_of_ble_eq_true rfl)) dX1_changePart_10 ⟨Nat.le_of_ble_eq_true rfl, Nat.le_of_ble_eq_true rfl⟩) (fun r_10 e_10 => ?_)
  subst e_10
  refine lv_aload_n hx hb dX1_changePart_13 rfl (lv_at hl 0 rfl) ?_
  refine sx_get (ci := 1) (C := RX1) (T := TX1) (N := 11) (v := .ref (al 2 i)) hx hb hts inX1 hown hK (c1_at hI hi) rfl 2 (by decide) (hts _ w_2_77) rfl rfl dX1_changePart_14 ?_
  refine lv_lload_n hx hb dX1_changePart_17 rfl (lv_at hl 1 rfl) ?_
  refine vp_callSl (W.runV (As := [.long b]) (rest := [.long (gNeed σ i a), .long (fL σ 1 i 6), .ref (al 1 i)]) ⟨hx, hb, hml, hown, hts⟩ (k_neededFor l D dA sa lo al σ μ i hi b) (cwV 1 hts (gdV w_2_157 w_2_158 w_2_159 w_1_10 w_2_160) rfl rfl rfl (by decide +kernel) ⟨Nat.le_of_ble_eq_true rfl, Nat.le_of_ble_eq_true rfl⟩) ⟨iv_bl, sx_recv hK (c2_at hI hi) rfl, fun U hU hW => ⟨rfl, iv_use hI hwd hS hU hW⟩⟩ rfl rfl hl.1 rfl (lv_room (Nat.le_of_ble_eq_true rfl)) dX1_changePart_18 ⟨Nat.le_of_ble_eq_true rfl, Nat.le_of_ble_eq_true rfl⟩) (fun r_18 e_18 => ?_)
  subst e_18
  refine lv_lsub hx hb dX1_changePart_21 ?_
  refine lv_ladd hx hb dX1_changePart_22 ?_
  refine sx_put (ci := 1) (v := .long ((fL σ 1 i 6) + ((gNeed σ i a) - (gNeed σ i b)))) (ty := .long) (C := RX1) (T := TX1) (N := 11) hx hb hts inX1 tyX1 okX1 nmX1 hown hK hS (c1_at hI hi) (c1_lo hI hi) rfl 6 (by decide) (hts _ w_2_83) rfl rfl (by decide +kernel) rfl rfl (Nat.le_of_ble_eq_true rfl) dX1_changePart_23 (fun H locs hq => ?_)
  have hI := c1_uL (f := 6) (v := (fL σ 1 i 6) + ((gNeed σ i a) - (gNeed σ i b))) hI hi rfl hq
  have hS := hq.2.2.2
  refine lv_lload_n hx hb dX1_changePart_26 rfl (lv_at hl 1 rfl) ?_
  refine lv_lconst (v := 0) hx hb dX1_changePart_27 (by decide) ?_
  refine W.lcmp hx hb dX1_changePart_28 ?_
  refine lv_if_ne (tgt := 42) hx hb dX1_changePart_29 (by decide) (fun c_29 => ?_) (fun c_29 => ?_)
  · have c_29 : ¬ b = 0 := fun h => c_29 ((lg_cmp_eq _ _).mpr h)
    refine lv_lload_n hx hb dX1_changePart_42 rfl (lv_at hl 2 rfl) ?_
    refine lv_lconst (v := 0) hx hb dX1_changePart_43 (by decide) ?_
    refine W.lcmp hx hb dX1_changePart_44 ?_
    refine lv_if_ne (tgt := 58) hx hb dX1_changePart_45 (by decide) (fun c_45 => ?_) (fun c_45 => ?_)
    · have c_45 : ¬ a = 0 := fun h => c_45 ((lg_cmp_eq _ _).mpr h)
      exact W.vret hx hb hr (fun t ht hW => ⟨⟨uL σ 1 i 6 ((fL σ 1 i 6) + ((gNeed σ i a) - (gNeed σ i b))), rfl, (by unfold gChg gCh3 gCh2 gCh1; simp only [if_neg c_29, if_neg c_45] <;> rfl), iv_give ht hI⟩, hS.F ht⟩) hS.2.2 dX1_changePart_58
    · have c_45 : a = 0 := (lg_cmp_eq _ _).mp c_45
      refine lv_aload_n hx hb dX1_changePart_48 rfl (lv_at hl 0 rfl) ?_
      refine lv_dup hx hb dX1_changePart_49 rfl ?_
      refine sx_get (ci := 1) (C := RX1) (T := TX1) (N := 11) (v := .int (fI σ 1 i 8)) hx hb hts inX1 hown hK (c1_at hI hi) rfl 8 (by decide) (hts _ w_2_87) rfl rfl dX1_changePart_50 ?_
      refine lv_iconst (v := 1) hx hb dX1_changePart_53 (by decide) ?_
      refine lv_isub hx hb dX1_changePart_54 ?_
      refine sx_put (ci := 1) (v := .int ((fI σ 1 i 8) - 1)) (ty := .int) (C := RX1) (T := TX1) (N := 11) hx hb hts inX1 tyX1 okX1 nmX1 hown hK hS (c1_at hI hi) (c1_lo hI hi) rfl 8 (by decide) (hts _ w_2_87) rfl rfl (by decide +kernel) rfl rfl (Nat.le_of_ble_eq_true rfl) dX1_changePart_55 (fun H locs hq => ?_)
      have hI := c1_uI (f := 8) (v := (fI σ 1 i 8) - 1) hI hi rfl hq
      have hS := hq.2.2.2
      exact W.vret hx hb hr (fun t ht hW => ⟨⟨uI (uL σ 1 i 6 ((fL σ 1 i 6) + ((gNeed σ i a) - (gNeed σ i b)))) 1 i 8 ((fI σ 1 i 8) - 1), rfl, (by unfold gChg gCh3 gCh2 gCh1; simp only [if_neg c_29, if_pos c_45] <;> rfl), iv_give ht hI⟩, hS.F ht⟩) hS.2.2 dX1_changePart_58
  · have c_29 : b = 0 := (lg_cmp_eq _ _).mp c_29
    refine lv_aload_n hx hb dX1_changePart_32 rfl (lv_at hl 0 rfl) ?_
    refine lv_dup hx hb dX1_changePart_33 rfl ?_
    refine sx_get (ci := 1) (C := RX1) (T := TX1) (N := 11) (v := .int (fI σ 1 i 8)) hx hb hts inX1 hown hK (c1_at hI hi) rfl 8 (by decide) (hts _ w_2_87) rfl rfl dX1_changePart_34 ?_
    refine lv_iconst (v := 1) hx hb dX1_changePart_37 (by decide) ?_
    refine lv_iadd hx hb dX1_changePart_38 ?_
    refine sx_put (ci := 1) (v := .int ((fI σ 1 i 8) + 1)) (ty := .int) (C := RX1) (T := TX1) (N := 11) hx hb hts inX1 tyX1 okX1 nmX1 hown hK hS (c1_at hI hi) (c1_lo hI hi) rfl 8 (by decide) (hts _ w_2_87) rfl rfl (by decide +kernel) rfl rfl (Nat.le_of_ble_eq_true rfl) dX1_changePart_39 (fun H locs hq => ?_)
    have hI := c1_uI (f := 8) (v := (fI σ 1 i 8) + 1) hI hi rfl hq
    have hS := hq.2.2.2
    refine lv_lload_n hx hb dX1_changePart_42 rfl (lv_at hl 2 rfl) ?_
    refine lv_lconst (v := 0) hx hb dX1_changePart_43 (by decide) ?_
    refine W.lcmp hx hb dX1_changePart_44 ?_
    refine lv_if_ne (tgt := 58) hx hb dX1_changePart_45 (by decide) (fun c_45 => ?_) (fun c_45 => ?_)
    · have c_45 : ¬ a = 0 := fun h => c_45 ((lg_cmp_eq _ _).mpr h)
      exact W.vret hx hb hr (fun t ht hW => ⟨⟨uI (uL σ 1 i 6 ((fL σ 1 i 6) + ((gNeed σ i a) - (gNeed σ i b)))) 1 i 8 ((fI σ 1 i 8) + 1), rfl, (by unfold gChg gCh3 gCh2 gCh1; simp only [if_pos c_29, if_neg c_45] <;> rfl), iv_give ht hI⟩, hS.F ht⟩) hS.2.2 dX1_changePart_58
    · have c_45 : a = 0 := (lg_cmp_eq _ _).mp c_45
      refine lv_aload_n hx hb dX1_changePart_48 rfl (lv_at hl 0 rfl) ?_
      refine lv_dup hx hb dX1_changePart_49 rfl ?_
      refine sx_get (ci := 1) (C := RX1) (T := TX1) (N := 11) (v := .int (fI (uI (uL σ 1 i 6 ((fL σ 1 i 6) + ((gNeed σ i a) - (gNeed σ i b)))) 1 i 8 ((fI σ 1 i 8) + 1)) 1 i 8)) hx hb hts inX1 hown hK (c1_at hI hi) rfl 8 (by decide) (hts _ w_2_87) rfl rfl dX1_changePart_50 ?_
      refine lv_iconst (v := 1) hx hb dX1_changePart_53 (by decide) ?_
      refine lv_isub hx hb dX1_changePart_54 ?_
      refine sx_put (ci := 1) (v := .int ((fI (uI (uL σ 1 i 6 ((fL σ 1 i 6) + ((gNeed σ i a) - (gNeed σ i b)))) 1 i 8 ((fI σ 1 i 8) + 1)) 1 i 8) - 1)) (ty := .int) (C := RX1) (T := TX1) (N := 11) hx hb hts inX1 tyX1 okX1 nmX1 hown hK hS (c1_at hI hi) (c1_lo hI hi) rfl 8 (by decide) (hts _ w_2_87) rfl rfl (by decide +kernel) rfl rfl (Nat.le_of_ble_eq_true rfl) dX1_changePart_55 (fun H locs hq => ?_)
      have hI := c1_uI (f := 8) (v := (fI (uI (uL σ 1 i 6 ((fL σ 1 i 6) + ((gNeed σ i a) - (gNeed σ i b)))) 1 i 8 ((fI σ 1 i 8) + 1)) 1 i 8) - 1) hI hi rfl hq
      have hS := hq.2.2.2
      exact W.vret hx hb hr (fun t ht hW => ⟨⟨uI (uI (uL σ 1 i 6 ((fL σ 1 i 6) + ((gNeed σ i a) - (gNeed σ i b)))) 1 i 8 ((fI σ 1 i 8) + 1)) 1 i 8 ((fI (uI (uL σ 1 i 6 ((fL σ 1 i 6) + ((gNeed σ i a) - (gNeed σ i b)))) 1 i 8 ((fI σ 1 i 8) + 1)) 1 i 8) - 1), rfl, (by unfold gChg gCh3 gCh2 gCh1; simp only [if_pos c_29, if_pos c_45] <;> rfl), iv_give ht hI⟩, hS.F ht⟩) hS.2.2 dX1_changePart_58

set_option maxHeartbeats 4000000 in
set_option maxRecDepth 100000 in
theorem k_loseUpTo (l : Launch) (D : va_G) (dA : Nat → ClassId) (sa : Nat → Nat) (lo : Nat) (al : Nat → Nat → Nat) (σ μ : CS) (i : Nat) (hi : i < nG σ) (x : Int64) (day : Int32) : Met l yX1_loseUpTo wsX1_loseUpTo ({ frames := 2, cells := 0, slots := 0, locals := 60 }) (va_Pc [.ref (al 1 i), .long x, .int day] (ivP D dA sa lo al σ μ)) (va_Ql (fun r u => r = gLost σ i x ∧ u = gLose σ i x day) (ivB D dA lo al μ) (fun q => lo ≤ q)) 0 0 (fun q => lo ≤ q) := by
  refine Met.ofW (cc := cX1_loseUpTo) (maxL := 6) (ret := some .long) (by decide) rfl ?_
  intro p e s m args below meth c s₁ B hml hv
  obtain ⟨rfl, hI, hwd⟩ := hv
  have hx := B.exec
  have hb := B.bytes
  have hr := B.returns
  have hts : ∀ w ∈ WSall, w.before _ s = true := fun w h => atoms_spec (ws := wsX1_loseUpTo) B.pre w (List.mem_cons_of_mem _ h)
  have hown : s.vm.findClass RX1 = some m.cls := findClass_of_methodNamed B.named
  have hlocks := B.notSynchronized
  have hK := hwd.1
  have hS : va_S (fun q => lo ≤ q) s.heap s.heap [] := va_S.rf
  have hl := lv_entry ([.ref (al 1 i), .long x, .int day]) (n := 6) (Nat.le_of_ble_eq_true rfl)
  rw [lg_entry_eq]
  generalize (lg_sl ([.ref (al 1 i), .long x, .int day]) ++ List.replicate (6 - (lg_sl ([.ref (al 1 i), .long x, .int day])).length) Slot.unset).toArray = ls at hl ⊢
  have hl : lv_has ls 6 [(0, .ref (al 1 i)), (1, .long x), (3, .int day)] := hl
  refine lv_aload_n hx hb dX1_loseUpTo_0 rfl (lv_at hl 0 rfl) ?_
  refine sx_get (ci := 1) (C := RX1) (T := TX1) (N := 11) (v := .long (fL σ 1 i 5)) hx hb hts inX1 hown hK (c1_at hI hi) rfl 5 (by decide) (hts _ w_2_81) rfl rfl dX1_loseUpTo_1 ?_
  refine lv_lload_n hx hb dX1_loseUpTo_4 rfl (lv_at hl 1 rfl) ?_
  refine va_mmin_long hx hb (hml.trans hl.1.symm) hown (hts _ w_2_213) (hts _ w_1_164) (hts _ w_1_12) (hts _ wm_min_long) (Nat.le_of_ble_eq_true rfl) (Nat.le_of_ble_eq_true rfl) (Nat.le_of_ble_eq_true rfl) (Nat.le_of_ble_eq_true rfl) dX1_loseUpTo_5 ?_
  refine lv_lstore (lv' := [(4, .long (if x < (fL σ 1 i 5) then x else (fL σ 1 i 5))), (0, .ref (al 1 i)), (1, .long x), (3, .int day)]) hx hb dX1_loseUpTo_8 hl (by decide) rfl (fun ls hl => ?_)
  refine lv_lload hx hb dX1_loseUpTo_10 (lv_at hl 0 rfl) ?_
  refine lv_lconst (v := 0) hx hb dX1_loseUpTo_12 (by decide) ?_
  refine W.lcmp hx hb dX1_loseUpTo_13 ?_
  refine lv_if_le (tgt := 51) hx hb dX1_loseUpTo_14 (by decide) (fun c_14 => ?_) (fun c_14 => ?_)
  · have c_14 : (if x < (fL σ 1 i 5) then x else (fL σ 1 i 5)) ≤ 0 := (lg_cmp_le _ _).mp c_14
    refine lv_lload hx hb dX1_loseUpTo_51 (lv_at hl 0 rfl) ?_
    exact W.lret (v := if x < (fL σ 1 i 5) then x else (fL σ 1 i 5)) hx hb hr (fun t ht hW => ⟨⟨if x < (fL σ 1 i 5) then x else (fL σ 1 i 5), σ, rfl, ⟨rfl, (by unfold gLose; rw [if_pos (show gLost σ i x ≤ 0 from c_14)] <;> rfl)⟩, iv_give ht hI⟩, hS.F ht⟩) hS.2.2 dX1_loseUpTo_53
  · have c_14 : ¬ (if x < (fL σ 1 i 5) then x else (fL σ 1 i 5)) ≤ 0 := fun h => c_14 ((lg_cmp_le _ _).mpr h)
    refine lv_aload_n hx hb dX1_loseUpTo_17 rfl (lv_at hl 1 rfl) ?_
    refine sx_get (ci := 1) (C := RX1) (T := TX1) (N := 11) (v := .ref (al 3 i)) hx hb hts inX1 hown hK (c1_at hI hi) rfl 4 (by decide) (hts _ w_2_79) rfl rfl dX1_loseUpTo_18 ?_
    refine lv_iload_n hx hb dX1_loseUpTo_21 rfl (lv_at hl 3 rfl) ?_
    refine lv_aload_n hx hb dX1_loseUpTo_22 rfl (lv_at hl 1 rfl) ?_
    refine sx_get (ci := 1) (C := RX1) (T := TX1) (N := 11) (v := .long (fL σ 1 i 5)) hx hb hts inX1 hown hK (c1_at hI hi) rfl 5 (by decide) (hts _ w_2_81) rfl rfl dX1_loseUpTo_23 ?_
    refine va_callv (va_runV (As := [.int day, .long (fL σ 1 i 5)]) (rest := []) ⟨hx, hb, hml, hown, hts⟩ (k_endRow l D dA sa lo al σ μ i hi day (fL σ 1 i 5)) (cwV 2 hts (gdV w_2_214 w_1_115 w_1_116 w_1_11 w_1_117) rfl rfl rfl (by decide +kernel) ⟨Nat.le_of_ble_eq_true rfl, Nat.le_of_ble_eq_true rfl⟩) ⟨iv_bl, sx_recv hK (c3_at hI hi) rfl, fun U hU hW => ⟨rfl, iv_use hI hwd hS hU hW⟩⟩ rfl rfl hl.1 rfl (lv_room (Nat.le_of_ble_eq_true rfl)) dX1_loseUpTo_26 ⟨Nat.le_of_ble_eq_true rfl, Nat.le_of_ble_eq_true rfl⟩) hS (fun q _ h => h) (fun q h => h) (fun u9 T9 H1 locs ht9 hvm9 e_26 hB9 hz9 hk9 hS => ?_)
    have hI := iv_take ht9 hB9
    clear hB9 hk9
    obtain rfl := e_26
    refine lv_aload_n hx hb dX1_loseUpTo_29 rfl (lv_at hl 1 rfl) ?_
    refine lv_dup hx hb dX1_loseUpTo_30 rfl ?_
    refine sx_get (ci := 1) (C := RX1) (T := TX1) (N := 11) (v := .long (fL (nEnd σ i day (fL σ 1 i 5)) 1 i 5)) hx hb hts inX1 hown hK (c1_at hI hi) rfl 5 (by decide) (hts _ w_2_81) rfl rfl dX1_loseUpTo_31 ?_
    refine lv_lload hx hb dX1_loseUpTo_34 (lv_at hl 0 rfl) ?_
    refine lv_lsub hx hb dX1_loseUpTo_36 ?_
    refine sx_put (ci := 1) (v := .long ((fL (nEnd σ i day (fL σ 1 i 5)) 1 i 5) - (if x < (fL σ 1 i 5) then x else (fL σ 1 i 5)))) (ty := .long) (C := RX1) (T := TX1) (N := 11) hx hb hts inX1 tyX1 okX1 nmX1 hown hK hS (c1_at hI hi) (c1_lo hI hi) rfl 5 (by decide) (hts _ w_2_81) rfl rfl (by decide +kernel) rfl rfl (Nat.le_of_ble_eq_true rfl) dX1_loseUpTo_37 (fun H locs hq => ?_)
    have hI := c1_uL (f := 5) (v := (fL (nEnd σ i day (fL σ 1 i 5)) 1 i 5) - (if x < (fL σ 1 i 5) then x else (fL σ 1 i 5))) hI hi rfl hq
    have hS := hq.2.2.2
    refine lv_aload_n hx hb dX1_loseUpTo_40 rfl (lv_at hl 1 rfl) ?_
    refine lv_dup hx hb dX1_loseUpTo_41 rfl ?_
    refine sx_get (ci := 1) (C := RX1) (T := TX1) (N := 11) (v := .long (fL (uL (nEnd σ i day (fL σ 1 i 5)) 1 i 5 ((fL (nEnd σ i day (fL σ 1 i 5)) 1 i 5) - (if x < (fL σ 1 i 5) then x else (fL σ 1 i 5)))) 1 i 7)) hx hb hts inX1 hown hK (c1_at hI hi) rfl 7 (by decide) (hts _ w_2_85) rfl rfl dX1_loseUpTo_42 ?_
    refine lv_lload hx hb dX1_loseUpTo_45 (lv_at hl 0 rfl) ?_
    refine lv_ladd hx hb dX1_loseUpTo_47 ?_
    refine sx_put (ci := 1) (v := .long ((fL (uL (nEnd σ i day (fL σ 1 i 5)) 1 i 5 ((fL (nEnd σ i day (fL σ 1 i 5)) 1 i 5) - (if x < (fL σ 1 i 5) then x else (fL σ 1 i 5)))) 1 i 7) + (if x < (fL σ 1 i 5) then x else (fL σ 1 i 5)))) (ty := .long) (C := RX1) (T := TX1) (N := 11) hx hb hts inX1 tyX1 okX1 nmX1 hown hK hS (c1_at hI hi) (c1_lo hI hi) rfl 7 (by decide) (hts _ w_2_85) rfl rfl (by decide +kernel) rfl rfl (Nat.le_of_ble_eq_true rfl) dX1_loseUpTo_48 (fun H locs hq => ?_)
    have hI := c1_uL (f := 7) (v := (fL (uL (nEnd σ i day (fL σ 1 i 5)) 1 i 5 ((fL (nEnd σ i day (fL σ 1 i 5)) 1 i 5) - (if x < (fL σ 1 i 5) then x else (fL σ 1 i 5)))) 1 i 7) + (if x < (fL σ 1 i 5) then x else (fL σ 1 i 5))) hI hi rfl hq
    have hS := hq.2.2.2
    refine lv_lload hx hb dX1_loseUpTo_51 (lv_at hl 0 rfl) ?_
    exact W.lret (v := if x < (fL σ 1 i 5) then x else (fL σ 1 i 5)) hx hb hr (fun t ht hW => ⟨⟨if x < (fL σ 1 i 5) then x else (fL σ 1 i 5), uL (uL (nEnd σ i day (fL σ 1 i 5)) 1 i 5 ((fL (nEnd σ i day (fL σ 1 i 5)) 1 i 5) - (if x < (fL σ 1 i 5) then x else (fL σ 1 i 5)))) 1 i 7 ((fL (uL (nEnd σ i day (fL σ 1 i 5)) 1 i 5 ((fL (nEnd σ i day (fL σ 1 i 5)) 1 i 5) - (if x < (fL σ 1 i 5) then x else (fL σ 1 i 5)))) 1 i 7) + (if x < (fL σ 1 i 5) then x else (fL σ 1 i 5))), rfl, ⟨rfl, (by unfold gLose; rw [if_neg (show ¬ gLost σ i x ≤ 0 from c_14)] <;> rfl)⟩, iv_give ht hI⟩, hS.F ht⟩) hS.2.2 dX1_loseUpTo_53

set_option maxHeartbeats 4000000 in
set_option maxRecDepth 100000 in
theorem k_shut (l : Launch) (D : va_G) (dA : Nat → ClassId) (sa : Nat → Nat) (lo : Nat) (al : Nat → Nat → Nat) (σ μ : CS) (i : Nat) (hi : i < nG σ) (day : Int32) : Met l yX1_shut wsX1_shut ({ frames := 3, cells := 0, slots := 0, locals := 90 }) (va_Pc [.ref (al 1 i), .int day] (ivP D dA sa lo al σ μ)) (va_Qv (fun u => u = gShut σ i day) (ivB D dA lo al μ) (fun q => lo ≤ q)) 0 0 (fun q => lo ≤ q) := by
  refine Met.ofW (cc := cX1_shut) (maxL := 2) (ret := none) (by decide) rfl ?_
  intro p e s m args below meth c s₁ B hml hv
  obtain ⟨rfl, hI, hwd⟩ := hv
  have hx := B.exec
  have hb := B.bytes
  have hr := B.returns
  have hts : ∀ w ∈ WSall, w.before _ s = true := fun w h => atoms_spec (ws := wsX1_shut) B.pre w (List.mem_cons_of_mem _ h)
  have hown : s.vm.findClass RX1 = some m.cls := findClass_of_methodNamed B.named
  have hlocks := B.notSynchronized
  have hK := hwd.1
  have hS : va_S (fun q => lo ≤ q) s.heap s.heap [] := va_S.rf
  have hl := lv_entry ([.ref (al 1 i), .int day]) (n := 2) (Nat.le_of_ble_eq_true rfl)
  rw [lg_entry_eq]
  generalize (lg_sl ([.ref (al 1 i), .int day]) ++ List.replicate (2 - (lg_sl ([.ref (al 1 i), .int day])).length) Slot.unset).toArray = ls at hl ⊢
  have hl : lv_has ls 2 [(0, .ref (al 1 i)), (1, .int day)] := hl
  refine lv_aload_n hx hb dX1_shut_0 rfl (lv_at hl 0 rfl) ?_
  refine sx_get (ci := 1) (C := RX1) (T := TX1) (N := 11) (v := .ref (al 3 i)) hx hb hts inX1 hown hK (c1_at hI hi) rfl 4 (by decide) (hts _ w_2_79) rfl rfl dX1_shut_1 ?_
  refine lv_iload_n hx hb dX1_shut_4 rfl (lv_at hl 1 rfl) ?_
  refine lv_aload_n hx hb dX1_shut_5 rfl (lv_at hl 0 rfl) ?_
  refine sx_get (ci := 1) (C := RX1) (T := TX1) (N := 11) (v := .long (fL σ 1 i 5)) hx hb hts inX1 hown hK (c1_at hI hi) rfl 5 (by decide) (hts _ w_2_81) rfl rfl dX1_shut_6 ?_
  refine va_callv (va_runV (As := [.int day, .long (fL σ 1 i 5)]) (rest := []) ⟨hx, hb, hml, hown, hts⟩ (k_stop l D dA sa lo al σ μ i hi day (fL σ 1 i 5)) (cwV 2 hts (gdV w_1_110 w_1_111 w_1_112 w_1_11 w_1_113) rfl rfl rfl (by decide +kernel) ⟨Nat.le_of_ble_eq_true rfl, Nat.le_of_ble_eq_true rfl⟩) ⟨iv_bl, sx_recv hK (c3_at hI hi) rfl, fun U hU hW => ⟨rfl, iv_use hI hwd hS hU hW⟩⟩ rfl rfl hl.1 rfl (lv_room (Nat.le_of_ble_eq_true rfl)) dX1_shut_9 ⟨Nat.le_of_ble_eq_true rfl, Nat.le_of_ble_eq_true rfl⟩) hS (fun q _ h => h) (fun q h => h) (fun u9 T9 H1 locs ht9 hvm9 e_9 hB9 hz9 hk9 hS => ?_)
  have hI := iv_take ht9 hB9
  clear hB9 hk9
  obtain rfl := e_9
  refine lv_aload_n hx hb dX1_shut_12 rfl (lv_at hl 0 rfl) ?_
  refine lv_iconst (v := 1) hx hb dX1_shut_13 (by decide) ?_
  refine sx_put (ci := 1) (v := .int 1) (ty := .boolean) (C := RX1) (T := TX1) (N := 11) hx hb hts inX1 tyX1 okX1 nmX1 hown hK hS (c1_at hI hi) (c1_lo hI hi) rfl 9 (by decide) (hts _ w_2_89) rfl rfl (by decide +kernel) rfl rfl (Nat.le_of_ble_eq_true rfl) dX1_shut_14 (fun H locs hq => ?_)
  have hI := c1_uI (f := 9) (v := 1) hI hi rfl hq
  have hS := hq.2.2.2
  exact W.vret hx hb hr (fun t ht hW => ⟨⟨uI (nStop σ i day (fL σ 1 i 5)) 1 i 9 1, rfl, rfl, iv_give ht hI⟩, hS.F ht⟩) hS.2.2 dX1_shut_17

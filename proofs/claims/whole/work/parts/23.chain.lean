set_option maxHeartbeats 4000000 in
set_option maxRecDepth 100000 in
theorem k_mayCoverTogether (l : Launch) (D : va_G) (dA : Nat → ClassId) (sa : Nat → Nat) (lo : Nat) (al : Nat → Nat → Nat) (σ μ : CS) (h : Nat) (hh : h < 8) (L : List Nat) (hc : Ch σ (fR σ 7 1 h) L) : Met l yX0_mayCoverTogether wsX0_mayCoverTogether ({ frames := 3, cells := 0, slots := 0, locals := 90 }) (va_Pc [.ref (al 0 0), .int (nI h)] (ivP D dA sa lo al σ μ)) (vp_Sl (fun r => r = lMin (sumMay σ L 0) 2000000000)) 0 0 (fun _ => False) := by
  refine Met.ofW (cc := cX0_mayCoverTogether) (maxL := 5) (ret := some .long) (by decide) rfl ?_
  intro p e s m args below meth c s₁ B hml hv
  obtain ⟨rfl, hI, hwd⟩ := hv
  have hx := B.exec
  have hb := B.bytes
  have hr := B.returns
  have hts : ∀ w ∈ WSall, w.before _ s = true := fun w h => atoms_spec (ws := wsX0_mayCoverTogether) B.pre w (List.mem_cons_of_mem _ h)
  have hown : s.vm.findClass RX0 = some m.cls := findClass_of_methodNamed B.named
  have hlocks := B.notSynchronized
  have hK := hwd.1
  have hS : va_S (fun q => lo ≤ q) s.heap s.heap [] := va_S.rf
  have hl := lv_entry ([.ref (al 0 0), .int (nI h)]) (n := 5) (Nat.le_of_ble_eq_true rfl)
  rw [lg_entry_eq]
  generalize (lg_sl ([.ref (al 0 0), .int (nI h)]) ++ List.replicate (5 - (lg_sl ([.ref (al 0 0), .int (nI h)])).length) Slot.unset).toArray = ls at hl ⊢
  have hl : lv_has ls 5 [(0, .ref (al 0 0)), (1, .int (nI h))] := hl
  have hch8 : (nI h).toNatClampNeg = h := nI_clamp (by omega)
  refine lv_lconst (v := 0) hx hb dX0_mayCoverTogether_0 (by decide) ?_
  refine lv_lstore_n (lv' := [(2, .long 0), (0, .ref (al 0 0)), (1, .int (nI h))]) hx hb dX0_mayCoverTogether_1 rfl hl (by decide) rfl (fun ls hl => ?_)
  refine lv_aload_n hx hb dX0_mayCoverTogether_2 rfl (lv_at hl 1 rfl) ?_
  refine sx_get (ci := 0) (C := RX0) (T := TX0) (N := 10) (v := .ref (al 7 1)) hx hb hts inX0 hown hK (c0_at hI) rfl 1 (by decide) (hts _ w_1_60) rfl rfl dX0_mayCoverTogether_3 ?_
  refine lv_iload_n hx hb dX0_mayCoverTogether_6 rfl (lv_at hl 2 rfl) ?_
  refine sx_aldq hx hb hK (c7_1_at hI) 3 rfl (vp_in_nI hh (by decide)) dX0_mayCoverTogether_7 ?_
  rw [hch8]
  refine sx_astore (lv' := [(4, va_rf (Option.map (al 1) (fR σ 7 1 h))), (2, .long 0), (0, .ref (al 0 0)), (1, .int (nI h))]) hx hb dX0_mayCoverTogether_8 hl (by decide) rfl (fun ls hl => ?_)
  refine w_loopP (hd := 10) (stk := []) (X := Option Nat × List Nat × Int64) (fun xx => match xx with | (o, t, v) => t.length) (fun xx ls => match xx with | (o, t, v) => (Ch σ o t ∧ sumMay σ t v = sumMay σ L 0) ∧ lv_has ls 5 [(4, va_rf (o.map (al 1))), (2, .long v), (0, .ref (al 0 0))]) (fun xx ls hk ih => ?_) (fR σ 7 1 h, L, 0) ls ⟨⟨hc, rfl⟩, lv_sub hl [0, 1, 2] rfl⟩
  obtain ⟨o, t, v⟩ := xx
  obtain ⟨hk, hl⟩ := hk
  cases t with
  | nil =>
    obtain ⟨rfl, hk⟩ := hk
    have hl : lv_has ls 5 [(4, .null), (2, .long v), (0, .ref (al 0 0))] := hl
    refine lv_aloadN hx hb dX0_mayCoverTogether_10 (lv_at hl 0 rfl) ?_
    refine lv_ifnullN (tgt := 33) hx hb dX0_mayCoverTogether_12 (by decide) ?_
    refine lv_lload_n hx hb dX0_mayCoverTogether_33 rfl (lv_at hl 1 rfl) ?_
    refine lv_ldc2 (v := 2000000000) hx hb hown (hts _ w_1_162) dX0_mayCoverTogether_34 ?_
    refine va_mmin_long hx hb (hml.trans hl.1.symm) hown (hts _ w_1_163) (hts _ w_1_164) (hts _ w_1_12) (hts _ wm_min_long) (Nat.le_of_ble_eq_true rfl) (Nat.le_of_ble_eq_true rfl) (Nat.le_of_ble_eq_true rfl) (Nat.le_of_ble_eq_true rfl) dX0_mayCoverTogether_37 ?_
    exact W.lret (v := if 2000000000 < v then 2000000000 else v) hx hb hr (fun t ht hW => ⟨_, rfl, (by have hk : v = sumMay σ L 0 := hk; rw [← hk] <;> rfl), ht⟩) (fun q h => by cases h) dX0_mayCoverTogether_40
  | cons g t =>
    obtain ⟨⟨rfl, hg, hch⟩, hk⟩ := hk
    have hl : lv_has ls 5 [(4, .ref (al 1 g)), (2, .long v), (0, .ref (al 0 0))] := hl
    refine lv_aload hx hb dX0_mayCoverTogether_10 (lv_at hl 0 rfl) ?_
    refine lv_ifnull hx hb dX0_mayCoverTogether_12 ?_
    refine lv_lload_n hx hb dX0_mayCoverTogether_15 rfl (lv_at hl 1 rfl) ?_
    refine lv_aload hx hb dX0_mayCoverTogether_16 (lv_at hl 0 rfl) ?_
    refine vp_callSl (W.runV (As := []) (rest := [.long v]) ⟨hx, hb, hml, hown, hts⟩ (k_mayCover l D dA sa lo al σ μ g hg ) (cwV 0 hts (gdV w_1_146 w_1_147 w_1_148 w_1_9 w_1_149) rfl rfl rfl (by decide +kernel) ⟨Nat.le_of_ble_eq_true rfl, Nat.le_of_ble_eq_true rfl⟩) ⟨iv_bl, sx_recv hK (c1_at hI hg) rfl, fun U hU hW => ⟨rfl, iv_use hI hwd hS hU hW⟩⟩ rfl rfl hl.1 rfl (lv_room (Nat.le_of_ble_eq_true rfl)) dX0_mayCoverTogether_18 ⟨Nat.le_of_ble_eq_true rfl, Nat.le_of_ble_eq_true rfl⟩) (fun r_18 e_18 => ?_)
    subst e_18
    refine lv_ladd hx hb dX0_mayCoverTogether_21 ?_
    refine lv_lstore_n (lv' := [(2, .long (v + (gMay σ g))), (4, .ref (al 1 g)), (0, .ref (al 0 0))]) hx hb dX0_mayCoverTogether_22 rfl hl (by decide) rfl (fun ls hl => ?_)
    refine lv_aload hx hb dX0_mayCoverTogether_23 (lv_at hl 1 rfl) ?_
    refine sx_getN (ci := 1) (C := RX1) (T := TX1) (N := 11) (v := va_rf (Option.map (al 1) (fR σ 1 g 10))) hx hb hts inX1 hown hK (c1_at hI hg) rfl 10 (by decide) (va_Nw.use rfl (wd_n hwd (.fieldLinkNest "GuaranteeBook" 175 "GuaranteeBook$Guarantee" "next" "LGuaranteeBook$Guarantee;" "GuaranteeBook") (List.mem_of_getElem? (i := 20) rfl))) rfl rfl dX0_mayCoverTogether_25 ?_
    refine sx_astore (lv' := [(4, va_rf (Option.map (al 1) (fR σ 1 g 10))), (2, .long (v + (gMay σ g))), (0, .ref (al 0 0))]) hx hb dX0_mayCoverTogether_28 hl (by decide) rfl (fun ls hl => ?_)
    refine lv_goto (tgt := 10) hx hb dX0_mayCoverTogether_30 (by decide) ?_
    exact ih (fR σ 1 g 10, t, v + (gMay σ g)) ls (by simp only [List.length_cons]; omega) ⟨⟨hch, hk⟩, lv_sub hl [0, 1, 2] rfl⟩

set_option maxHeartbeats 4000000 in
set_option maxRecDepth 100000 in
theorem k_list (l : Launch) (D : va_G) (dA : Nat → ClassId) (sa : Nat → Nat) (lo : Nat) (al : Nat → Nat → Nat) (σ μ : CS) (x i : Int32) (L : Nat → List Nat) (hL : ∀ h, h < 8 → Ch σ (fR σ 7 1 h) (L h)) : Met l yX0_list wsX0_list ({ frames := 1, cells := 0, slots := 0, locals := 30 }) (va_Pc [.ref (al 0 0), .int x, .int i] (ivP D dA sa lo al σ μ)) (vp_Si (fun r => r = if pHold x ∧ 0 ≤ i then lsAt σ i (L x.toNatClampNeg) 0 else -1)) 0 0 (fun _ => False) := by
  refine Met.ofW (cc := cX0_list) (maxL := 5) (ret := some .int) (by decide) rfl ?_
  intro p e s m args below meth c s₁ B hml hv
  obtain ⟨rfl, hI, hwd⟩ := hv
  have hx := B.exec
  have hb := B.bytes
  have hr := B.returns
  have hts : ∀ w ∈ WSall, w.before _ s = true := fun w h => atoms_spec (ws := wsX0_list) B.pre w (List.mem_cons_of_mem _ h)
  have hown : s.vm.findClass RX0 = some m.cls := findClass_of_methodNamed B.named
  have hlocks := B.notSynchronized
  have hK := hwd.1
  have hS : va_S (fun q => lo ≤ q) s.heap s.heap [] := va_S.rf
  have hl := lv_entry ([.ref (al 0 0), .int x, .int i]) (n := 5) (Nat.le_of_ble_eq_true rfl)
  rw [lg_entry_eq]
  generalize (lg_sl ([.ref (al 0 0), .int x, .int i]) ++ List.replicate (5 - (lg_sl ([.ref (al 0 0), .int x, .int i])).length) Slot.unset).toArray = ls at hl ⊢
  have hl : lv_has ls 5 [(0, .ref (al 0 0)), (1, .int x), (2, .int i)] := hl
  refine lv_iload_n hx hb dX0_list_0 rfl (lv_at hl 1 rfl) ?_
  refine vp_callSi (W.runS (As := [.int x]) (rest := []) ⟨hx, hb, hml, hown, hts⟩ (k_isHolder l D dA sa lo al σ μ x) (cwS 1 hts (gdS w_1_139 w_1_140 w_1_1 w_1_141) rfl rfl rfl (by decide +kernel) ⟨Nat.le_of_ble_eq_true rfl, Nat.le_of_ble_eq_true rfl⟩) ⟨iv_bl, fun U hU hW => ⟨rfl, iv_use hI hwd hS hU hW⟩⟩ rfl rfl hl.1 rfl (lv_room (Nat.le_of_ble_eq_true rfl)) dX0_list_1 ⟨Nat.le_of_ble_eq_true rfl, Nat.le_of_ble_eq_true rfl⟩) (fun r_1 e_1 => ?_)
  subst e_1
  refine lv_if_eq (tgt := 11) hx hb dX0_list_4 (by decide) (fun c_4 => ?_) (fun c_4 => ?_)
  · have c_4 := bp_0.mp c_4
    refine lv_iconst (v := (-1)) hx hb dX0_list_11 (by decide) ?_
    exact W.iret (v := (-1)) hx hb hr (fun t ht hW => ⟨_, rfl, (by rw [if_neg (fun h => c_4 h.1)]), ht⟩) (fun q h => by cases h) dX0_list_12
  · have c_4 := bp_n0.mp c_4
    refine lv_iload_n hx hb dX0_list_7 rfl (lv_at hl 2 rfl) ?_
    refine lv_if_ge (tgt := 13) hx hb dX0_list_8 (by decide) (fun c_8 => ?_) (fun c_8 => ?_)
    · obtain ⟨h, hh, rfl⟩ := hold_in c_4
      have hch8 : (nI h).toNatClampNeg = h := nI_clamp (by omega)
      have hc := hL h hh
      have hl : lv_has ls 5 [(0, .ref (al 0 0)), (1, .int (nI h)), (2, .int i)] := hl
      refine lv_iconst (v := 0) hx hb dX0_list_13 (by decide) ?_
      refine lv_istore_n (lv' := [(3, .int 0), (0, .ref (al 0 0)), (1, .int (nI h)), (2, .int i)]) hx hb dX0_list_14 rfl hl (by decide) rfl (fun ls hl => ?_)
      refine lv_aload_n hx hb dX0_list_15 rfl (lv_at hl 1 rfl) ?_
      refine sx_get (ci := 0) (C := RX0) (T := TX0) (N := 10) (v := .ref (al 7 1)) hx hb hts inX0 hown hK (c0_at hI) rfl 1 (by decide) (hts _ w_1_60) rfl rfl dX0_list_16 ?_
      refine lv_iload_n hx hb dX0_list_19 rfl (lv_at hl 2 rfl) ?_
      refine sx_aldq hx hb hK (c7_1_at hI) 3 rfl (vp_in_nI hh (by decide)) dX0_list_20 ?_
      rw [hch8]
      refine sx_astore (lv' := [(4, va_rf (Option.map (al 1) (fR σ 7 1 h))), (3, .int 0), (0, .ref (al 0 0)), (1, .int (nI h)), (2, .int i)]) hx hb dX0_list_21 hl (by decide) rfl (fun ls hl => ?_)
      refine w_loopP (hd := 23) (stk := []) (X := Option Nat × List Nat × Int32) (fun xx => match xx with | (o, t, a) => t.length) (fun xx ls => match xx with | (o, t, a) => (Ch σ o t ∧ lsAt σ i t a = lsAt σ i (L h) 0) ∧ lv_has ls 5 [(4, va_rf (o.map (al 1))), (3, .int a), (2, .int i), (0, .ref (al 0 0))]) (fun xx ls hk ih => ?_) (fR σ 7 1 h, L h, 0) ls ⟨⟨hc, rfl⟩, lv_sub hl [0, 1, 4, 2] rfl⟩
      obtain ⟨o, t, a⟩ := xx
      obtain ⟨hk, hl⟩ := hk
      cases t with
      | nil =>
        obtain ⟨rfl, hk⟩ := hk
        have hl : lv_has ls 5 [(4, .null), (3, .int a), (2, .int i), (0, .ref (al 0 0))] := hl
        refine lv_aloadN hx hb dX0_list_23 (lv_at hl 0 rfl) ?_
        refine lv_ifnullN (tgt := 52) hx hb dX0_list_25 (by decide) ?_
        refine lv_iconst (v := (-1)) hx hb dX0_list_52 (by decide) ?_
        exact W.iret (v := (-1)) hx hb hr (fun t ht hW => ⟨_, rfl, (by rw [if_pos ⟨hold_ok hh, c_8⟩]; exact hk), ht⟩) (fun q h => by cases h) dX0_list_53
      | cons g t =>
        obtain ⟨⟨rfl, hg, hch⟩, hk⟩ := hk
        have hl : lv_has ls 5 [(4, .ref (al 1 g)), (3, .int a), (2, .int i), (0, .ref (al 0 0))] := hl
        refine lv_aload hx hb dX0_list_23 (lv_at hl 0 rfl) ?_
        refine lv_ifnull hx hb dX0_list_25 ?_
        refine lv_iload_n hx hb dX0_list_28 rfl (lv_at hl 1 rfl) ?_
        refine lv_iload_n hx hb dX0_list_29 rfl (lv_at hl 2 rfl) ?_
        refine lv_icmp_ne (tgt := 39) hx hb dX0_list_30 (by decide) (fun c_30 => ?_) (fun c_30 => ?_)
        · refine lv_iinc (v := a + 1) (lv' := [(3, .int (a + 1)), (4, .ref (al 1 g)), (2, .int i), (0, .ref (al 0 0))]) hx hb dX0_list_39 hl (k := 1) rfl rfl (by decide) rfl (fun ls hl => ?_)
          refine lv_aload hx hb dX0_list_42 (lv_at hl 1 rfl) ?_
          refine sx_getN (ci := 1) (C := RX1) (T := TX1) (N := 11) (v := va_rf (Option.map (al 1) (fR σ 1 g 10))) hx hb hts inX1 hown hK (c1_at hI hg) rfl 10 (by decide) (va_Nw.use rfl (wd_n hwd (.fieldLinkNest "GuaranteeBook" 175 "GuaranteeBook$Guarantee" "next" "LGuaranteeBook$Guarantee;" "GuaranteeBook") (List.mem_of_getElem? (i := 20) rfl))) rfl rfl dX0_list_44 ?_
          refine sx_astore (lv' := [(4, va_rf (Option.map (al 1) (fR σ 1 g 10))), (3, .int (a + 1)), (2, .int i), (0, .ref (al 0 0))]) hx hb dX0_list_47 hl (by decide) rfl (fun ls hl => ?_)
          refine lv_goto (tgt := 23) hx hb dX0_list_49 (by decide) ?_
          exact ih (fR σ 1 g 10, t, a + 1) ls (by simp only [List.length_cons]; omega) ⟨⟨hch, (by rw [lsAt, if_neg c_30] at hk; exact hk)⟩, lv_sub hl [0, 1, 2, 3] rfl⟩
        · refine lv_aload hx hb dX0_list_33 (lv_at hl 0 rfl) ?_
          refine sx_getN (ci := 1) (C := RX1) (T := TX1) (N := 11) (v := .int (fI σ 1 g 0)) hx hb hts inX1 hown hK (c1_at hI hg) rfl 0 (by decide) (va_Nw.use rfl (wd_n hwd (.fieldLinkNest "GuaranteeBook" 172 "GuaranteeBook$Guarantee" "number" "I" "GuaranteeBook") (List.mem_of_getElem? (i := 12) rfl))) rfl rfl dX0_list_35 ?_
          exact W.iret (v := fI σ 1 g 0) hx hb hr (fun t ht hW => ⟨_, rfl, (by rw [if_pos ⟨hold_ok hh, c_8⟩]; rw [lsAt, if_pos c_30] at hk; exact hk), ht⟩) (fun q h => by cases h) dX0_list_38
    · refine lv_iconst (v := (-1)) hx hb dX0_list_11 (by decide) ?_
      exact W.iret (v := (-1)) hx hb hr (fun t ht hW => ⟨_, rfl, (by rw [if_neg (fun h => c_8 h.2)]), ht⟩) (fun q h => by cases h) dX0_list_12

set_option maxHeartbeats 4000000 in
set_option maxRecDepth 100000 in
theorem k_tick (l : Launch) (D : va_G) (dA : Nat → ClassId) (sa : Nat → Nat) (lo : Nat) (al : Nat → Nat → Nat) (σ μ : CS) (x : Int32) : Met l yX0_tick wsX0_tick ({ frames := 0, cells := 0, slots := 0, locals := 0 }) (va_Pc [.ref (al 0 0), .int x] (ivP D dA sa lo al σ μ)) (va_Qi (fun r u => (r, u) = cTick σ x) (ivB D dA lo al μ) (fun q => lo ≤ q)) 0 0 (fun q => lo ≤ q) := by
  refine Met.ofW (cc := cX0_tick) (maxL := 2) (ret := some .boolean) (by decide) rfl ?_
  intro p e s m args below meth c s₁ B hml hv
  obtain ⟨rfl, hI, hwd⟩ := hv
  have hx := B.exec
  have hb := B.bytes
  have hr := B.returns
  have hts : ∀ w ∈ WSall, w.before _ s = true := fun w h => atoms_spec (ws := wsX0_tick) B.pre w (List.mem_cons_of_mem _ h)
  have hown : s.vm.findClass RX0 = some m.cls := findClass_of_methodNamed B.named
  have hlocks := B.notSynchronized
  have hK := hwd.1
  have hS : va_S (fun q => lo ≤ q) s.heap s.heap [] := va_S.rf
  have hl := lv_entry ([.ref (al 0 0), .int x]) (n := 2) (Nat.le_of_ble_eq_true rfl)
  rw [lg_entry_eq]
  generalize (lg_sl ([.ref (al 0 0), .int x]) ++ List.replicate (2 - (lg_sl ([.ref (al 0 0), .int x])).length) Slot.unset).toArray = ls at hl ⊢
  have hl : lv_has ls 2 [(0, .ref (al 0 0)), (1, .int x)] := hl
  refine lv_iload_n hx hb dX0_tick_0 rfl (lv_at hl 1 rfl) ?_
  refine lv_aload_n hx hb dX0_tick_1 rfl (lv_at hl 0 rfl) ?_
  refine sx_get (ci := 0) (C := RX0) (T := TX0) (N := 10) (v := .int (fI σ 0 0 9)) hx hb hts inX0 hown hK (c0_at hI) rfl 9 (by decide) (hts _ w_1_68) rfl rfl dX0_tick_2 ?_
  refine lv_icmp_lt (tgt := 14) hx hb dX0_tick_5 (by decide) (fun c_5 => ?_) (fun c_5 => ?_)
  · refine lv_iconst (v := 0) hx hb dX0_tick_14 (by decide) ?_
    exact W.zret (v := 0) hx hb hr rfl (fun t ht hW => ⟨⟨0, σ, rfl, (by unfold cTick; simp only [if_pos c_5]), iv_give ht hI⟩, hS.F ht⟩) hS.2.2 dX0_tick_15
  · refine lv_iload_n hx hb dX0_tick_8 rfl (lv_at hl 1 rfl) ?_
    refine lv_ldc (v := 100000) hx hb hown (hts _ w_1_134) dX0_tick_9 ?_
    refine lv_icmp_le (tgt := 16) hx hb dX0_tick_11 (by decide) (fun c_11 => ?_) (fun c_11 => ?_)
    · refine lv_aload_n hx hb dX0_tick_16 rfl (lv_at hl 0 rfl) ?_
      refine lv_iload_n hx hb dX0_tick_17 rfl (lv_at hl 1 rfl) ?_
      refine sx_put (ci := 0) (v := .int x) (ty := .int) (C := RX0) (T := TX0) (N := 10) hx hb hts inX0 tyX0 okX0 nmX0 hown hK hS (c0_at hI) (c0_lo hI) rfl 9 (by decide) (hts _ w_1_68) rfl rfl (by decide +kernel) rfl rfl (Nat.le_of_ble_eq_true rfl) dX0_tick_18 (fun H locs hq => ?_)
      have hI := c0_uI (f := 9) (v := x) hI rfl hq
      have hS := hq.2.2.2
      refine lv_iconst (v := 1) hx hb dX0_tick_21 (by decide) ?_
      exact W.zret (v := 1) hx hb hr rfl (fun t ht hW => ⟨⟨1, uI σ 0 0 9 x, rfl, (by unfold cTick; simp only [if_neg c_5, if_pos c_11]), iv_give ht hI⟩, hS.F ht⟩) hS.2.2 dX0_tick_22
    · refine lv_iconst (v := 0) hx hb dX0_tick_14 (by decide) ?_
      exact W.zret (v := 0) hx hb hr rfl (fun t ht hW => ⟨⟨0, σ, rfl, (by unfold cTick; simp only [if_neg c_5, if_neg c_11]), iv_give ht hI⟩, hS.F ht⟩) hS.2.2 dX0_tick_15

set_option maxHeartbeats 4000000 in
set_option maxRecDepth 100000 in
theorem k_fails (l : Launch) (D : va_G) (dA : Nat → ClassId) (sa : Nat → Nat) (lo : Nat) (al : Nat → Nat → Nat) (σ μ : CS) (x on : Int32) (hon : on = 0 ∨ on = 1) : Met l yX0_fails wsX0_fails ({ frames := 1, cells := 0, slots := 0, locals := 30 }) (va_Pc [.ref (al 0 0), .int x, .int on] (ivP D dA sa lo al σ μ)) (va_Qi (fun r u => (r, u) = cFails σ x on) (ivB D dA lo al μ) (fun q => lo ≤ q)) 0 0 (fun q => lo ≤ q) := by
  refine Met.ofW (cc := cX0_fails) (maxL := 3) (ret := some .boolean) (by decide) rfl ?_
  intro p e s m args below meth c s₁ B hml hv
  obtain ⟨rfl, hI, hwd⟩ := hv
  have hx := B.exec
  have hb := B.bytes
  have hr := B.returns
  have hts : ∀ w ∈ WSall, w.before _ s = true := fun w h => atoms_spec (ws := wsX0_fails) B.pre w (List.mem_cons_of_mem _ h)
  have hown : s.vm.findClass RX0 = some m.cls := findClass_of_methodNamed B.named
  have hlocks := B.notSynchronized
  have hK := hwd.1
  have hS : va_S (fun q => lo ≤ q) s.heap s.heap [] := va_S.rf
  have hl := lv_entry ([.ref (al 0 0), .int x, .int on]) (n := 3) (Nat.le_of_ble_eq_true rfl)
  rw [lg_entry_eq]
  generalize (lg_sl ([.ref (al 0 0), .int x, .int on]) ++ List.replicate (3 - (lg_sl ([.ref (al 0 0), .int x, .int on])).length) Slot.unset).toArray = ls at hl ⊢
  have hl : lv_has ls 3 [(0, .ref (al 0 0)), (1, .int x), (2, .int on)] := hl
  refine lv_iload_n hx hb dX0_fails_0 rfl (lv_at hl 1 rfl) ?_
  refine vp_callSi (W.runS (As := [.int x]) (rest := []) ⟨hx, hb, hml, hown, hts⟩ (k_isDesk l D dA sa lo al σ μ x) (cwS 1 hts (gdS w_1_127 w_1_128 w_1_1 w_1_129) rfl rfl rfl (by decide +kernel) ⟨Nat.le_of_ble_eq_true rfl, Nat.le_of_ble_eq_true rfl⟩) ⟨iv_bl, fun U hU hW => ⟨rfl, iv_use hI hwd hS hU hW⟩⟩ rfl rfl hl.1 rfl (lv_room (Nat.le_of_ble_eq_true rfl)) dX0_fails_1 ⟨Nat.le_of_ble_eq_true rfl, Nat.le_of_ble_eq_true rfl⟩) (fun r_1 e_1 => ?_)
  subst e_1
  refine lv_if_eq (tgt := 17) hx hb dX0_fails_4 (by decide) (fun c_4 => ?_) (fun c_4 => ?_)
  · have c_4 := bp_0.mp c_4
    refine lv_iconst (v := 0) hx hb dX0_fails_17 (by decide) ?_
    exact W.zret (v := 0) hx hb hr rfl (fun t ht hW => ⟨⟨0, σ, rfl, (by unfold cFails; simp only [if_neg c_4]), iv_give ht hI⟩, hS.F ht⟩) hS.2.2 dX0_fails_18
  · have c_4 := bp_n0.mp c_4
    refine lv_aload_n hx hb dX0_fails_7 rfl (lv_at hl 0 rfl) ?_
    refine sx_get (ci := 0) (C := RX0) (T := TX0) (N := 10) (v := .ref (al 7 3)) hx hb hts inX0 hown hK (c0_at hI) rfl 3 (by decide) (hts _ w_1_62) rfl rfl dX0_fails_8 ?_
    refine lv_iload_n hx hb dX0_fails_11 rfl (lv_at hl 1 rfl) ?_
    refine sx_zald hx hb hK (c7_3_at hI) 2 rfl (desk_vp c_4) dX0_fails_12 ?_
    refine lv_iload_n hx hb dX0_fails_13 rfl (lv_at hl 2 rfl) ?_
    refine lv_icmp_ne (tgt := 19) hx hb dX0_fails_14 (by decide) (fun c_14 => ?_) (fun c_14 => ?_)
    · refine lv_aload_n hx hb dX0_fails_19 rfl (lv_at hl 0 rfl) ?_
      refine sx_get (ci := 0) (C := RX0) (T := TX0) (N := 10) (v := .ref (al 7 3)) hx hb hts inX0 hown hK (c0_at hI) rfl 3 (by decide) (hts _ w_1_62) rfl rfl dX0_fails_20 ?_
      refine lv_iload_n hx hb dX0_fails_23 rfl (lv_at hl 1 rfl) ?_
      refine lv_iload_n hx hb dX0_fails_24 rfl (lv_at hl 2 rfl) ?_
      refine sx_zast hx hb hK hS (c7_3_at hI) (c7_3_lo hI) 2 rfl (desk_vp c_4) dX0_fails_25 (fun H locs hq => ?_)
      rw [(show vp_nar .boolean on = on by rcases hon with rfl | rfl <;> rfl)] at hq
      have hI := c7_3_uI (f := x.toNatClampNeg) (v := on) hI hq
      have hS := hq.2.2.2
      refine lv_iconst (v := 1) hx hb dX0_fails_26 (by decide) ?_
      exact W.zret (v := 1) hx hb hr rfl (fun t ht hW => ⟨⟨1, uI σ 7 3 x.toNatClampNeg on, rfl, (by unfold cFails; simp only [if_pos c_4, if_neg c_14]), iv_give ht hI⟩, hS.F ht⟩) hS.2.2 dX0_fails_27
    · refine lv_iconst (v := 0) hx hb dX0_fails_17 (by decide) ?_
      exact W.zret (v := 0) hx hb hr rfl (fun t ht hW => ⟨⟨0, σ, rfl, (by unfold cFails; simp only [if_pos c_4, if_pos c_14]), iv_give ht hI⟩, hS.F ht⟩) hS.2.2 dX0_fails_18

set_option maxHeartbeats 4000000 in
set_option maxRecDepth 100000 in
theorem k_count (l : Launch) (D : va_G) (dA : Nat → ClassId) (sa : Nat → Nat) (lo : Nat) (al : Nat → Nat → Nat) (σ μ : CS) (x : Int32) : Met l yX0_count wsX0_count ({ frames := 1, cells := 0, slots := 0, locals := 30 }) (va_Pc [.ref (al 0 0), .int x] (ivP D dA sa lo al σ μ)) (vp_Si (fun r => r = cCount σ x)) 0 0 (fun _ => False) := by
  refine Met.ofW (cc := cX0_count) (maxL := 2) (ret := some .int) (by decide) rfl ?_
  intro p e s m args below meth c s₁ B hml hv
  obtain ⟨rfl, hI, hwd⟩ := hv
  have hx := B.exec
  have hb := B.bytes
  have hr := B.returns
  have hts : ∀ w ∈ WSall, w.before _ s = true := fun w h => atoms_spec (ws := wsX0_count) B.pre w (List.mem_cons_of_mem _ h)
  have hown : s.vm.findClass RX0 = some m.cls := findClass_of_methodNamed B.named
  have hlocks := B.notSynchronized
  have hK := hwd.1
  have hS : va_S (fun q => lo ≤ q) s.heap s.heap [] := va_S.rf
  have hl := lv_entry ([.ref (al 0 0), .int x]) (n := 2) (Nat.le_of_ble_eq_true rfl)
  rw [lg_entry_eq]
  generalize (lg_sl ([.ref (al 0 0), .int x]) ++ List.replicate (2 - (lg_sl ([.ref (al 0 0), .int x])).length) Slot.unset).toArray = ls at hl ⊢
  have hl : lv_has ls 2 [(0, .ref (al 0 0)), (1, .int x)] := hl
  refine lv_iload_n hx hb dX0_count_0 rfl (lv_at hl 1 rfl) ?_
  refine lv_bipush (v := 10) hx hb dX0_count_1 (by decide) ?_
  refine lv_icmp_lt (tgt := 26) hx hb dX0_count_3 (by decide) (fun c_3 => ?_) (fun c_3 => ?_)
  · refine lv_iload_n hx hb dX0_count_26 rfl (lv_at hl 1 rfl) ?_
    by_cases c_27_0 : x = 0
    · refine lv_tableIn (tgt := 56) hx hb dX0_count_27 (by rw [c_27_0]; decide) (by rw [c_27_0]; decide) (by rw [c_27_0]; rfl) (by decide) ?_
      refine lv_aload_n hx hb dX0_count_56 rfl (lv_at hl 0 rfl) ?_
      refine sx_get (ci := 0) (C := RX0) (T := TX0) (N := 10) (v := .int (fI σ 0 0 6)) hx hb hts inX0 hown hK (c0_at hI) rfl 6 (by decide) (hts _ w_1_65) rfl rfl dX0_count_57 ?_
      exact W.iret (v := fI σ 0 0 6) hx hb hr (fun t ht hW => ⟨_, rfl, (by unfold cCount; simp only [if_neg (show ¬ (¬ x < 10 ∧ pDesk (x - 10)) from fun h => h.1 c_3), if_pos c_27_0]), ht⟩) (fun q h => by cases h) dX0_count_60
    by_cases c_27_1 : x = 1
    · refine lv_tableIn (tgt := 61) hx hb dX0_count_27 (by rw [c_27_1]; decide) (by rw [c_27_1]; decide) (by rw [c_27_1]; rfl) (by decide) ?_
      refine lv_aload_n hx hb dX0_count_61 rfl (lv_at hl 0 rfl) ?_
      refine sx_get (ci := 0) (C := RX0) (T := TX0) (N := 10) (v := .int (fI σ 0 0 7)) hx hb hts inX0 hown hK (c0_at hI) rfl 7 (by decide) (hts _ w_1_66) rfl rfl dX0_count_62 ?_
      exact W.iret (v := fI σ 0 0 7) hx hb hr (fun t ht hW => ⟨_, rfl, (by unfold cCount; simp only [if_neg (show ¬ (¬ x < 10 ∧ pDesk (x - 10)) from fun h => h.1 c_3), if_neg c_27_0, if_pos c_27_1]), ht⟩) (fun q h => by cases h) dX0_count_65
    by_cases c_27_2 : x = 2
    · refine lv_tableIn (tgt := 66) hx hb dX0_count_27 (by rw [c_27_2]; decide) (by rw [c_27_2]; decide) (by rw [c_27_2]; rfl) (by decide) ?_
      refine lv_aload_n hx hb dX0_count_66 rfl (lv_at hl 0 rfl) ?_
      refine sx_get (ci := 0) (C := RX0) (T := TX0) (N := 10) (v := .int (fI σ 0 0 8)) hx hb hts inX0 hown hK (c0_at hI) rfl 8 (by decide) (hts _ w_1_67) rfl rfl dX0_count_67 ?_
      exact W.iret (v := fI σ 0 0 8) hx hb hr (fun t ht hW => ⟨_, rfl, (by unfold cCount; simp only [if_neg (show ¬ (¬ x < 10 ∧ pDesk (x - 10)) from fun h => h.1 c_3), if_neg c_27_0, if_neg c_27_1, if_pos c_27_2]), ht⟩) (fun q h => by cases h) dX0_count_70
    by_cases c_27_3 : x = 3
    · refine lv_tableIn (tgt := 71) hx hb dX0_count_27 (by rw [c_27_3]; decide) (by rw [c_27_3]; decide) (by rw [c_27_3]; rfl) (by decide) ?_
      refine lv_aload_n hx hb dX0_count_71 rfl (lv_at hl 0 rfl) ?_
      refine sx_get (ci := 0) (C := RX0) (T := TX0) (N := 10) (v := .int (fI σ 0 0 9)) hx hb hts inX0 hown hK (c0_at hI) rfl 9 (by decide) (hts _ w_1_68) rfl rfl dX0_count_72 ?_
      exact W.iret (v := fI σ 0 0 9) hx hb hr (fun t ht hW => ⟨_, rfl, (by unfold cCount; simp only [if_neg (show ¬ (¬ x < 10 ∧ pDesk (x - 10)) from fun h => h.1 c_3), if_neg c_27_0, if_neg c_27_1, if_neg c_27_2, if_pos c_27_3]), ht⟩) (fun q h => by cases h) dX0_count_75
    refine lv_tableOut (tgt := 76) hx hb dX0_count_27 (sw_out3 c_27_0 c_27_1 c_27_2 c_27_3) (by decide) ?_
    refine lv_iconst (v := (-1)) hx hb dX0_count_76 (by decide) ?_
    exact W.iret (v := (-1)) hx hb hr (fun t ht hW => ⟨_, rfl, (by unfold cCount; simp only [if_neg (show ¬ (¬ x < 10 ∧ pDesk (x - 10)) from fun h => h.1 c_3), if_neg c_27_0, if_neg c_27_1, if_neg c_27_2, if_neg c_27_3]), ht⟩) (fun q h => by cases h) dX0_count_77
  · refine lv_iload_n hx hb dX0_count_6 rfl (lv_at hl 1 rfl) ?_
    refine lv_bipush (v := 10) hx hb dX0_count_7 (by decide) ?_
    refine lv_isub hx hb dX0_count_9 ?_
    refine vp_callSi (W.runS (As := [.int (x - 10)]) (rest := []) ⟨hx, hb, hml, hown, hts⟩ (k_isDesk l D dA sa lo al σ μ (x - 10)) (cwS 1 hts (gdS w_1_127 w_1_128 w_1_1 w_1_129) rfl rfl rfl (by decide +kernel) ⟨Nat.le_of_ble_eq_true rfl, Nat.le_of_ble_eq_true rfl⟩) ⟨iv_bl, fun U hU hW => ⟨rfl, iv_use hI hwd hS hU hW⟩⟩ rfl rfl hl.1 rfl (lv_room (Nat.le_of_ble_eq_true rfl)) dX0_count_10 ⟨Nat.le_of_ble_eq_true rfl, Nat.le_of_ble_eq_true rfl⟩) (fun r_10 e_10 => ?_)
    subst e_10
    refine lv_if_eq (tgt := 26) hx hb dX0_count_13 (by decide) (fun c_13 => ?_) (fun c_13 => ?_)
    · have c_13 := bp_0.mp c_13
      refine lv_iload_n hx hb dX0_count_26 rfl (lv_at hl 1 rfl) ?_
      by_cases c_27_0 : x = 0
      · refine lv_tableIn (tgt := 56) hx hb dX0_count_27 (by rw [c_27_0]; decide) (by rw [c_27_0]; decide) (by rw [c_27_0]; rfl) (by decide) ?_
        refine lv_aload_n hx hb dX0_count_56 rfl (lv_at hl 0 rfl) ?_
        refine sx_get (ci := 0) (C := RX0) (T := TX0) (N := 10) (v := .int (fI σ 0 0 6)) hx hb hts inX0 hown hK (c0_at hI) rfl 6 (by decide) (hts _ w_1_65) rfl rfl dX0_count_57 ?_
        exact W.iret (v := fI σ 0 0 6) hx hb hr (fun t ht hW => ⟨_, rfl, (by unfold cCount; simp only [if_neg (show ¬ (¬ x < 10 ∧ pDesk (x - 10)) from fun h => c_13 h.2), if_pos c_27_0]), ht⟩) (fun q h => by cases h) dX0_count_60
      by_cases c_27_1 : x = 1
      · refine lv_tableIn (tgt := 61) hx hb dX0_count_27 (by rw [c_27_1]; decide) (by rw [c_27_1]; decide) (by rw [c_27_1]; rfl) (by decide) ?_
        refine lv_aload_n hx hb dX0_count_61 rfl (lv_at hl 0 rfl) ?_
        refine sx_get (ci := 0) (C := RX0) (T := TX0) (N := 10) (v := .int (fI σ 0 0 7)) hx hb hts inX0 hown hK (c0_at hI) rfl 7 (by decide) (hts _ w_1_66) rfl rfl dX0_count_62 ?_
        exact W.iret (v := fI σ 0 0 7) hx hb hr (fun t ht hW => ⟨_, rfl, (by unfold cCount; simp only [if_neg (show ¬ (¬ x < 10 ∧ pDesk (x - 10)) from fun h => c_13 h.2), if_neg c_27_0, if_pos c_27_1]), ht⟩) (fun q h => by cases h) dX0_count_65
      by_cases c_27_2 : x = 2
      · refine lv_tableIn (tgt := 66) hx hb dX0_count_27 (by rw [c_27_2]; decide) (by rw [c_27_2]; decide) (by rw [c_27_2]; rfl) (by decide) ?_
        refine lv_aload_n hx hb dX0_count_66 rfl (lv_at hl 0 rfl) ?_
        refine sx_get (ci := 0) (C := RX0) (T := TX0) (N := 10) (v := .int (fI σ 0 0 8)) hx hb hts inX0 hown hK (c0_at hI) rfl 8 (by decide) (hts _ w_1_67) rfl rfl dX0_count_67 ?_
        exact W.iret (v := fI σ 0 0 8) hx hb hr (fun t ht hW => ⟨_, rfl, (by unfold cCount; simp only [if_neg (show ¬ (¬ x < 10 ∧ pDesk (x - 10)) from fun h => c_13 h.2), if_neg c_27_0, if_neg c_27_1, if_pos c_27_2]), ht⟩) (fun q h => by cases h) dX0_count_70
      by_cases c_27_3 : x = 3
      · refine lv_tableIn (tgt := 71) hx hb dX0_count_27 (by rw [c_27_3]; decide) (by rw [c_27_3]; decide) (by rw [c_27_3]; rfl) (by decide) ?_
        refine lv_aload_n hx hb dX0_count_71 rfl (lv_at hl 0 rfl) ?_
        refine sx_get (ci := 0) (C := RX0) (T := TX0) (N := 10) (v := .int (fI σ 0 0 9)) hx hb hts inX0 hown hK (c0_at hI) rfl 9 (by decide) (hts _ w_1_68) rfl rfl dX0_count_72 ?_
        exact W.iret (v := fI σ 0 0 9) hx hb hr (fun t ht hW => ⟨_, rfl, (by unfold cCount; simp only [if_neg (show ¬ (¬ x < 10 ∧ pDesk (x - 10)) from fun h => c_13 h.2), if_neg c_27_0, if_neg c_27_1, if_neg c_27_2, if_pos c_27_3]), ht⟩) (fun q h => by cases h) dX0_count_75
      refine lv_tableOut (tgt := 76) hx hb dX0_count_27 (sw_out3 c_27_0 c_27_1 c_27_2 c_27_3) (by decide) ?_
      refine lv_iconst (v := (-1)) hx hb dX0_count_76 (by decide) ?_
      exact W.iret (v := (-1)) hx hb hr (fun t ht hW => ⟨_, rfl, (by unfold cCount; simp only [if_neg (show ¬ (¬ x < 10 ∧ pDesk (x - 10)) from fun h => c_13 h.2), if_neg c_27_0, if_neg c_27_1, if_neg c_27_2, if_neg c_27_3]), ht⟩) (fun q h => by cases h) dX0_count_77
    · have c_13 := bp_n0.mp c_13
      refine lv_aload_n hx hb dX0_count_16 rfl (lv_at hl 0 rfl) ?_
      refine sx_get (ci := 0) (C := RX0) (T := TX0) (N := 10) (v := .ref (al 7 4)) hx hb hts inX0 hown hK (c0_at hI) rfl 4 (by decide) (hts _ w_1_63) rfl rfl dX0_count_17 ?_
      refine lv_iload_n hx hb dX0_count_20 rfl (lv_at hl 1 rfl) ?_
      refine lv_bipush (v := 10) hx hb dX0_count_21 (by decide) ?_
      refine lv_isub hx hb dX0_count_23 ?_
      refine sx_iald hx hb hK (c7_4_at hI) 0 rfl (desk_vp c_13) dX0_count_24 ?_
      exact W.iret (v := fI σ 7 4 (x - 10).toNatClampNeg) hx hb hr (fun t ht hW => ⟨_, rfl, (by unfold cCount; simp only [if_pos (And.intro c_3 c_13)]), ht⟩) (fun q h => by cases h) dX0_count_25

set_option maxHeartbeats 4000000 in
set_option maxRecDepth 100000 in
theorem k_free (l : Launch) (D : va_G) (dA : Nat → ClassId) (sa : Nat → Nat) (lo : Nat) (al : Nat → Nat → Nat) (σ μ : CS) (x : Int32) (L : Nat → List Nat) (hL : ∀ h, h < 8 → Ch σ (fR σ 7 1 h) (L h)) : Met l yX0_free wsX0_free ({ frames := 4, cells := 0, slots := 0, locals := 130 }) (va_Pc [.ref (al 0 0), .int x] (ivP D dA sa lo al σ μ)) (vp_Sl (fun r => r = cFree σ L x)) 0 0 (fun _ => False) := by
  refine Met.ofW (cc := cX0_free) (maxL := 2) (ret := some .long) (by decide) rfl ?_
  intro p e s m args below meth c s₁ B hml hv
  obtain ⟨rfl, hI, hwd⟩ := hv
  have hx := B.exec
  have hb := B.bytes
  have hr := B.returns
  have hts : ∀ w ∈ WSall, w.before _ s = true := fun w h => atoms_spec (ws := wsX0_free) B.pre w (List.mem_cons_of_mem _ h)
  have hown : s.vm.findClass RX0 = some m.cls := findClass_of_methodNamed B.named
  have hlocks := B.notSynchronized
  have hK := hwd.1
  have hS : va_S (fun q => lo ≤ q) s.heap s.heap [] := va_S.rf
  have hl := lv_entry ([.ref (al 0 0), .int x]) (n := 2) (Nat.le_of_ble_eq_true rfl)
  rw [lg_entry_eq]
  generalize (lg_sl ([.ref (al 0 0), .int x]) ++ List.replicate (2 - (lg_sl ([.ref (al 0 0), .int x])).length) Slot.unset).toArray = ls at hl ⊢
  have hl : lv_has ls 2 [(0, .ref (al 0 0)), (1, .int x)] := hl
  refine lv_iload_n hx hb dX0_free_0 rfl (lv_at hl 1 rfl) ?_
  refine vp_callSi (W.runS (As := [.int x]) (rest := []) ⟨hx, hb, hml, hown, hts⟩ (k_isHolder l D dA sa lo al σ μ x) (cwS 1 hts (gdS w_1_139 w_1_140 w_1_1 w_1_141) rfl rfl rfl (by decide +kernel) ⟨Nat.le_of_ble_eq_true rfl, Nat.le_of_ble_eq_true rfl⟩) ⟨iv_bl, fun U hU hW => ⟨rfl, iv_use hI hwd hS hU hW⟩⟩ rfl rfl hl.1 rfl (lv_room (Nat.le_of_ble_eq_true rfl)) dX0_free_1 ⟨Nat.le_of_ble_eq_true rfl, Nat.le_of_ble_eq_true rfl⟩) (fun r_1 e_1 => ?_)
  subst e_1
  refine lv_if_eq (tgt := 15) hx hb dX0_free_4 (by decide) (fun c_4 => ?_) (fun c_4 => ?_)
  · have c_4 := bp_0.mp c_4
    refine lv_ldc2 (v := (-1)) hx hb hown (hts _ w_1_166) dX0_free_15 ?_
    exact W.lret (v := (-1)) hx hb hr (fun t ht hW => ⟨_, rfl, (by unfold cFree; rw [if_neg c_4]), ht⟩) (fun q h => by cases h) dX0_free_18
  · have c_4 := bp_n0.mp c_4
    obtain ⟨h, hh, rfl⟩ := hold_in c_4
    have hl : lv_has ls 2 [(0, .ref (al 0 0)), (1, .int (nI h))] := hl
    refine lv_aload_n hx hb dX0_free_7 rfl (lv_at hl 0 rfl) ?_
    refine lv_iload_n hx hb dX0_free_8 rfl (lv_at hl 1 rfl) ?_
    refine vp_callSl (W.runV (As := [.int (nI h)]) (rest := []) ⟨hx, hb, hml, hown, hts⟩ (k_mayCoverTogether l D dA sa lo al σ μ h hh (L h) (hL h hh)) (cwV 1 hts (gdV w_1_142 w_1_144 wp_2 w_1_1 w_1_145) rfl rfl rfl (by decide +kernel) ⟨Nat.le_of_ble_eq_true rfl, Nat.le_of_ble_eq_true rfl⟩) ⟨iv_bl, sx_recv hK (c0_at hI) rfl, fun U hU hW => ⟨rfl, iv_use hI hwd hS hU hW⟩⟩ rfl rfl hl.1 rfl (lv_room (Nat.le_of_ble_eq_true rfl)) dX0_free_9 ⟨Nat.le_of_ble_eq_true rfl, Nat.le_of_ble_eq_true rfl⟩) (fun r_9 e_9 => ?_)
    subst e_9
    refine lv_goto (tgt := 18) hx hb dX0_free_12 (by decide) ?_
    exact W.lret (v := lMin (sumMay σ (L h) 0) 2000000000) hx hb hr (fun t ht hW => ⟨_, rfl, (by unfold cFree; rw [if_pos c_4, nI_clamp (by omega)]), ht⟩) (fun q h => by cases h) dX0_free_18

set_option maxHeartbeats 4000000 in
set_option maxRecDepth 100000 in
theorem k_finish (l : Launch) (D : va_G) (dA : Nat → ClassId) (sa : Nat → Nat) (lo : Nat) (al : Nat → Nat → Nat) (σ μ : CS) (j : Nat) (hj : j < nR σ) (how : Int32) : Met l yX0_finish wsX0_finish ({ frames := 0, cells := 0, slots := 0, locals := 0 }) (va_Pc [.ref (al 0 0), .ref (al 4 j), .int how] (ivP D dA sa lo al σ μ)) (va_Qv (fun u => u = rFin σ j how) (ivB D dA lo al μ) (fun q => lo ≤ q)) 0 0 (fun q => lo ≤ q) := by
  refine Met.ofW (cc := cX0_finish) (maxL := 3) (ret := none) (by decide) rfl ?_
  intro p e s m args below meth c s₁ B hml hv
  obtain ⟨rfl, hI, hwd⟩ := hv
  have hx := B.exec
  have hb := B.bytes
  have hr := B.returns
  have hts : ∀ w ∈ WSall, w.before _ s = true := fun w h => atoms_spec (ws := wsX0_finish) B.pre w (List.mem_cons_of_mem _ h)
  have hown : s.vm.findClass RX0 = some m.cls := findClass_of_methodNamed B.named
  have hlocks := B.notSynchronized
  have hK := hwd.1
  have hS : va_S (fun q => lo ≤ q) s.heap s.heap [] := va_S.rf
  have hl := lv_entry ([.ref (al 0 0), .ref (al 4 j), .int how]) (n := 3) (Nat.le_of_ble_eq_true rfl)
  rw [lg_entry_eq]
  generalize (lg_sl ([.ref (al 0 0), .ref (al 4 j), .int how]) ++ List.replicate (3 - (lg_sl ([.ref (al 0 0), .ref (al 4 j), .int how])).length) Slot.unset).toArray = ls at hl ⊢
  have hl : lv_has ls 3 [(0, .ref (al 0 0)), (1, .ref (al 4 j)), (2, .int how)] := hl
  refine lv_aload_n hx hb dX0_finish_0 rfl (lv_at hl 1 rfl) ?_
  refine lv_iload_n hx hb dX0_finish_1 rfl (lv_at hl 2 rfl) ?_
  refine sx_putN (ci := 4) (v := .int how) (ty := .int) (C := RX4) (T := TX4) (N := 6) hx hb hts inX4 tyX4 okX4 nmX4 hown hK hS (c4_at hI hj) (c4_lo hI hj) rfl 5 (by decide) (va_Nw.use rfl (wd_n hwd (.fieldLinkNest "GuaranteeBook" 123 "GuaranteeBook$Reservation" "state" "I" "GuaranteeBook") (List.mem_of_getElem? (i := 5) rfl))) rfl rfl (by decide +kernel) rfl rfl (Nat.le_of_ble_eq_true rfl) dX0_finish_2 (fun H locs hq => ?_)
  have hI := c4_uI (f := 5) (v := how) hI hj rfl hq
  have hS := hq.2.2.2
  refine lv_aload_n hx hb dX0_finish_5 rfl (lv_at hl 0 rfl) ?_
  refine lv_dup hx hb dX0_finish_6 rfl ?_
  refine sx_get (ci := 0) (C := RX0) (T := TX0) (N := 10) (v := .int (fI σ 0 0 8)) hx hb hts inX0 hown hK (c0_at hI) rfl 8 (by decide) (hts _ w_1_67) rfl rfl dX0_finish_7 ?_
  refine lv_iconst (v := 1) hx hb dX0_finish_10 (by decide) ?_
  refine lv_isub hx hb dX0_finish_11 ?_
  refine sx_put (ci := 0) (v := .int ((fI σ 0 0 8) - 1)) (ty := .int) (C := RX0) (T := TX0) (N := 10) hx hb hts inX0 tyX0 okX0 nmX0 hown hK hS (c0_at hI) (c0_lo hI) rfl 8 (by decide) (hts _ w_1_67) rfl rfl (by decide +kernel) rfl rfl (Nat.le_of_ble_eq_true rfl) dX0_finish_12 (fun H locs hq => ?_)
  have hI := c0_uI (f := 8) (v := (fI σ 0 0 8) - 1) hI rfl hq
  have hS := hq.2.2.2
  exact W.vret hx hb hr (fun t ht hW => ⟨⟨uI (uI σ 4 j 5 how) 0 0 8 ((fI σ 0 0 8) - 1), rfl, rfl, iv_give ht hI⟩, hS.F ht⟩) hS.2.2 dX0_finish_15

set_option maxHeartbeats 4000000 in
set_option maxRecDepth 100000 in
theorem k_close (l : Launch) (D : va_G) (dA : Nat → ClassId) (sa : Nat → Nat) (lo : Nat) (al : Nat → Nat → Nat) (σ μ : CS) (x : Int32) (n r : Nat) (hw : WFc σ n r) : Met l yX0_close wsX0_close ({ frames := 4, cells := 0, slots := 0, locals := 130 }) (va_Pc [.ref (al 0 0), .int x] (ivP D dA sa lo al σ μ)) (va_Qi (fun r u => (r, u) = cClose σ n x) (ivB D dA lo al μ) (fun q => lo ≤ q)) 0 0 (fun q => lo ≤ q) := by
  refine Met.ofW (cc := cX0_close) (maxL := 3) (ret := some .boolean) (by decide) rfl ?_
  intro p e s m args below meth c s₁ B hml hv
  obtain ⟨rfl, hI, hwd⟩ := hv
  have hx := B.exec
  have hb := B.bytes
  have hr := B.returns
  have hts : ∀ w ∈ WSall, w.before _ s = true := fun w h => atoms_spec (ws := wsX0_close) B.pre w (List.mem_cons_of_mem _ h)
  have hown : s.vm.findClass RX0 = some m.cls := findClass_of_methodNamed B.named
  have hlocks := B.notSynchronized
  have hK := hwd.1
  have hS : va_S (fun q => lo ≤ q) s.heap s.heap [] := va_S.rf
  have hl := lv_entry ([.ref (al 0 0), .int x]) (n := 3) (Nat.le_of_ble_eq_true rfl)
  rw [lg_entry_eq]
  generalize (lg_sl ([.ref (al 0 0), .int x]) ++ List.replicate (3 - (lg_sl ([.ref (al 0 0), .int x])).length) Slot.unset).toArray = ls at hl ⊢
  have hl : lv_has ls 3 [(0, .ref (al 0 0)), (1, .int x)] := hl
  obtain ⟨hnG, hnR, hn20, hr60, hgc, hrc, hdr, hgs, hrs, hho, hpa⟩ := id hw
  refine lv_aload_n hx hb dX0_close_0 rfl (lv_at hl 0 rfl) ?_
  refine lv_iload_n hx hb dX0_close_1 rfl (lv_at hl 1 rfl) ?_
  refine va_csq (W.runV (As := [.int x]) (rest := []) ⟨hx, hb, hml, hown, hts⟩ (k_guaranteeNumbered l D dA sa lo al σ μ x n hgc hn20 hgs) (cwV 1 hts (gdV w_1_94 w_1_96 wp_0 w_1_1 w_1_97) rfl rfl rfl (by decide +kernel) ⟨Nat.le_of_ble_eq_true rfl, Nat.le_of_ble_eq_true rfl⟩) ⟨iv_bl, sx_recv hK (c0_at hI) rfl, fun U hU hW => ⟨rfl, iv_use hI hwd hS hU hW⟩⟩ rfl rfl hl.1 rfl (lv_room (Nat.le_of_ble_eq_true rfl)) dX0_close_2 ⟨Nat.le_of_ble_eq_true rfl, Nat.le_of_ble_eq_true rfl⟩) (fun r_2 e_2 => ?_)
  rcases e_2 with ⟨i_2, hi_2, hxi_2, rfl⟩ | ⟨hxi_2, rfl⟩
  · have hix := gIx_some hi_2 (by omega) hxi_2
    have hbi_2 : i_2 < nG σ := (by rw [hnG]; exact hi_2)
    refine W.eq (g2 := F0 m 5 ls (.ref (al 1 i_2) :: [])) rfl ?_
    refine lv_astore_n (lv' := [(2, .ref (al 1 i_2)), (0, .ref (al 0 0)), (1, .int x)]) hx hb dX0_close_5 rfl hl (by decide) rfl (fun ls hl => ?_)
    refine lv_aload_n hx hb dX0_close_6 rfl (lv_at hl 0 rfl) ?_
    refine lv_ifnull hx hb dX0_close_7 ?_
    refine lv_aload_n hx hb dX0_close_10 rfl (lv_at hl 0 rfl) ?_
    refine sx_getN (ci := 1) (C := RX1) (T := TX1) (N := 11) (v := .int (fI σ 1 i_2 9)) hx hb hts inX1 hown hK (c1_at hI hbi_2) rfl 9 (by decide) (va_Nw.use rfl (wd_n hwd (.fieldLinkNest "GuaranteeBook" 149 "GuaranteeBook$Guarantee" "closed" "Z" "GuaranteeBook") (List.mem_of_getElem? (i := 19) rfl))) rfl rfl dX0_close_11 ?_
    refine lv_if_eq (tgt := 19) hx hb dX0_close_14 (by decide) (fun c_14 => ?_) (fun c_14 => ?_)
    · refine lv_aload_n hx hb dX0_close_19 rfl (lv_at hl 0 rfl) ?_
      refine lv_aload_n hx hb dX0_close_20 rfl (lv_at hl 1 rfl) ?_
      refine sx_get (ci := 0) (C := RX0) (T := TX0) (N := 10) (v := .int (fI σ 0 0 9)) hx hb hts inX0 hown hK (c0_at hI) rfl 9 (by decide) (hts _ w_1_68) rfl rfl dX0_close_21 ?_
      refine va_callv (va_runV (As := [.int (fI σ 0 0 9)]) (rest := []) ⟨hx, hb, hml, hown, hts⟩ (k_shut l D dA sa lo al σ μ i_2 hbi_2 (fI σ 0 0 9)) (cwV 1 hts (gdV w_1_106 w_1_107 w_1_108 w_1_9 w_1_109) rfl rfl rfl (by decide +kernel) ⟨Nat.le_of_ble_eq_true rfl, Nat.le_of_ble_eq_true rfl⟩) ⟨iv_bl, sx_recv hK (c1_at hI hbi_2) rfl, fun U hU hW => ⟨rfl, iv_use hI hwd hS hU hW⟩⟩ rfl rfl hl.1 rfl (lv_room (Nat.le_of_ble_eq_true rfl)) dX0_close_24 ⟨Nat.le_of_ble_eq_true rfl, Nat.le_of_ble_eq_true rfl⟩) hS (fun q _ h => h) (fun q h => h) (fun u9 T9 H1 locs ht9 hvm9 e_24 hB9 hz9 hk9 hS => ?_)
      have hI := iv_take ht9 hB9
      clear hB9 hk9
      obtain rfl := e_24
      refine lv_iconst (v := 1) hx hb dX0_close_27 (by decide) ?_
      exact W.zret (v := 1) hx hb hr rfl (fun t ht hW => ⟨⟨1, gShut σ i_2 (fI σ 0 0 9), rfl, (by unfold cClose; rw [hix]; simp only [if_pos c_14]), iv_give ht hI⟩, hS.F ht⟩) hS.2.2 dX0_close_28
    · refine lv_iconst (v := 0) hx hb dX0_close_17 (by decide) ?_
      exact W.zret (v := 0) hx hb hr rfl (fun t ht hW => ⟨⟨0, σ, rfl, (by unfold cClose; rw [hix]; simp only [if_neg c_14]), iv_give ht hI⟩, hS.F ht⟩) hS.2.2 dX0_close_18
  · have hix := gIx_none hxi_2
    refine W.eq (g2 := F0 m 5 ls (.null :: [])) rfl ?_
    refine lv_astore_nN (lv' := [(2, .null), (0, .ref (al 0 0)), (1, .int x)]) hx hb dX0_close_5 rfl hl (by decide) rfl (fun ls hl => ?_)
    refine lv_aload_nN hx hb dX0_close_6 rfl (lv_at hl 0 rfl) ?_
    refine lv_ifnullN (tgt := 17) hx hb dX0_close_7 (by decide) ?_
    refine lv_iconst (v := 0) hx hb dX0_close_17 (by decide) ?_
    exact W.zret (v := 0) hx hb hr rfl (fun t ht hW => ⟨⟨0, σ, rfl, (by unfold cClose; rw [hix]), iv_give ht hI⟩, hS.F ht⟩) hS.2.2 dX0_close_18

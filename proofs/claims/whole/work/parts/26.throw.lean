set_option maxHeartbeats 4000000 in
set_option maxRecDepth 100000 in
theorem t_interest (l : Launch) (D : va_G) (dA : Nat → ClassId) (sa : Nat → Nat) (lo : Nat) (al : Nat → Nat → Nat) (σ μ : CS) (hlt : l.stackTraces = false) (x : Int32) (n r : Nat) (hw : WFc σ n r) : vx_Met l yX0_interest wsX0_interest ({ frames := 6, cells := 1, slots := 6, locals := 160 }) (va_Pc [.ref (al 0 0), .int x] (ivP D dA sa lo al σ μ)) (va_Ql (fun z9 (u : CS) => cInterest σ n x = (0, z9, u)) (ivB D dA lo al μ) (fun q => lo ≤ q)) (vx_X (fun u : CS => u = σ) (fun E u t => ((E = "java/lang/IllegalArgumentException" ∧ (cInterest σ n x).1 = 1)) ∧ ivB D dA lo al μ u t) (fun q => lo ≤ q)) 1 6 (fun q => lo ≤ q) := by
  refine vx_ofW (cc := cX0_interest) (maxL := 3) (ret := some .long) (by decide) rfl ?_
  intro p e s m args below meth c s₁ B hml hnoh hv
  obtain ⟨rfl, hI, hwd⟩ := hv
  have hx := B.exec
  have hb := B.bytes
  have hr := B.returns
  have hts : ∀ w ∈ WSall, w.before _ s = true := fun w h => atoms_spec (ws := wsX0_interest) B.pre w (List.mem_cons_of_mem _ h)
  have hown : s.vm.findClass RX0 = some m.cls := findClass_of_methodNamed B.named
  have hlocks := B.notSynchronized
  have hK := hwd.1
  have hS : va_S (fun q => lo ≤ q) s.heap s.heap [] := va_S.rf
  have hl := lv_entry ([.ref (al 0 0), .int x]) (n := 3) (Nat.le_of_ble_eq_true rfl)
  rw [lg_entry_eq]
  generalize (lg_sl ([.ref (al 0 0), .int x]) ++ List.replicate (3 - (lg_sl ([.ref (al 0 0), .int x])).length) Slot.unset).toArray = ls at hl ⊢
  have hl : lv_has ls 3 [(0, .ref (al 0 0)), (1, .int x)] := hl
  obtain ⟨hnG, hnR, hn20, hr60, hgc, hrc, hdr, hgs, hrs, hho, hpa⟩ := id hw
  refine lv_aload_n hx hb dX0_interest_0 rfl (lv_at hl 0 rfl) ?_
  refine lv_iload_n hx hb dX0_interest_1 rfl (lv_at hl 1 rfl) ?_
  refine va_csq (W.runV (As := [.int x]) (rest := []) ⟨hx, hb, hml, hown, hts⟩ (k_guaranteeNumbered l D dA sa lo al σ μ x n hgc hn20 hgs) (cwV 1 hts (gdV w_1_94 w_1_96 wp_0 w_1_1 w_1_97) rfl rfl rfl (by decide +kernel) ⟨Nat.le_of_ble_eq_true rfl, Nat.le_of_ble_eq_true rfl⟩) ⟨iv_bl, sx_recv hK (c0_at hI) rfl, fun U hU hW => ⟨rfl, iv_use hI hwd hS hU hW⟩⟩ rfl rfl hl.1 rfl (lv_room (Nat.le_of_ble_eq_true rfl)) dX0_interest_2 ⟨Nat.le_of_ble_eq_true rfl, Nat.le_of_ble_eq_true rfl⟩) (fun r_2 e_2 => ?_)
  rcases e_2 with ⟨i_2, hi_2, hxi_2, rfl⟩ | ⟨hxi_2, rfl⟩
  · have hix := gIx_some hi_2 (by omega) hxi_2
    have hbi_2 : i_2 < nG σ := (by rw [hnG]; exact hi_2)
    refine W.eq (g2 := F0 m 5 ls (.ref (al 1 i_2) :: [])) rfl ?_
    refine lv_astore_n (lv' := [(2, .ref (al 1 i_2)), (0, .ref (al 0 0)), (1, .int x)]) hx hb dX0_interest_5 rfl hl (by decide) rfl (fun ls hl => ?_)
    refine lv_aload_n hx hb dX0_interest_6 rfl (lv_at hl 0 rfl) ?_
    refine lv_ifnonnull (tgt := 20) hx hb dX0_interest_7 (by decide) ?_
    refine lv_aload_n hx hb dX0_interest_20 rfl (lv_at hl 0 rfl) ?_
    refine sx_getN (ci := 1) (C := RX1) (T := TX1) (N := 11) (v := .ref (al 3 i_2)) hx hb hts inX1 hown hK (c1_at hI hbi_2) rfl 4 (by decide) (va_Nw.use rfl (wd_n hwd (.fieldLinkNest "GuaranteeBook" 160 "GuaranteeBook$Guarantee" "interest" "LGuaranteeBook$Interest;" "GuaranteeBook") (List.mem_of_getElem? (i := 14) rfl))) rfl rfl dX0_interest_21 ?_
    refine lv_aload_n hx hb dX0_interest_24 rfl (lv_at hl 1 rfl) ?_
    refine sx_get (ci := 0) (C := RX0) (T := TX0) (N := 10) (v := .int (fI σ 0 0 9)) hx hb hts inX0 hown hK (c0_at hI) rfl 9 (by decide) (hts _ w_1_68) rfl rfl dX0_interest_25 ?_
    refine lv_aload_n hx hb dX0_interest_28 rfl (lv_at hl 0 rfl) ?_
    refine sx_getN (ci := 1) (C := RX1) (T := TX1) (N := 11) (v := .long (fL σ 1 i_2 5)) hx hb hts inX1 hown hK (c1_at hI hbi_2) rfl 5 (by decide) (va_Nw.use rfl (wd_n hwd (.fieldLinkNest "GuaranteeBook" 164 "GuaranteeBook$Guarantee" "amount" "J" "GuaranteeBook") (List.mem_of_getElem? (i := 15) rfl))) rfl rfl dX0_interest_29 ?_
    refine vp_callSl (W.runV (As := [.int (fI σ 0 0 9), .long (fL σ 1 i_2 5)]) (rest := []) ⟨hx, hb, hml, hown, hts⟩ (k_upTo l D dA sa lo al σ μ i_2 hbi_2 (fI σ 0 0 9) (fL σ 1 i_2 5)) (cwV 2 hts (gdV w_2_223 w_1_119 w_1_120 w_1_11 w_1_121) rfl rfl rfl (by decide +kernel) ⟨Nat.le_of_ble_eq_true rfl, Nat.le_of_ble_eq_true rfl⟩) ⟨iv_bl, sx_recv hK (c3_at hI hbi_2) rfl, fun U hU hW => ⟨rfl, iv_use hI hwd hS hU hW⟩⟩ rfl rfl hl.1 rfl (lv_room (Nat.le_of_ble_eq_true rfl)) dX0_interest_32 ⟨Nat.le_of_ble_eq_true rfl, Nat.le_of_ble_eq_true rfl⟩) (fun r_32 e_32 => ?_)
    subst e_32
    refine W.widen (k := 1) (n := 6) (Nat.le_of_ble_eq_true rfl) (Nat.le_of_ble_eq_true rfl) ?_
    exact vx_ret (W.lret (v := nUp σ i_2 (fI σ 0 0 9) (fL σ 1 i_2 5)) hx hb hr (fun t ht hW => ⟨⟨nUp σ i_2 (fI σ 0 0 9) (fL σ 1 i_2 5), σ, rfl, (by unfold cInterest; rw [hix]), iv_give ht hI⟩, hS.F ht⟩) hS.2.2 dX0_interest_35)
  · have hix := gIx_none hxi_2
    refine W.eq (g2 := F0 m 5 ls (.null :: [])) rfl ?_
    refine lv_astore_nN (lv' := [(2, .null), (0, .ref (al 0 0)), (1, .int x)]) hx hb dX0_interest_5 rfl hl (by decide) rfl (fun ls hl => ?_)
    refine lv_aload_nN hx hb dX0_interest_6 rfl (lv_at hl 0 rfl) ?_
    refine lv_ifnonnullN hx hb dX0_interest_7 ?_
    exact vx_throwS (names := xnames) (text := "no such guarantee") (sa := sa 158) hx hb hlt hown xIAE_fit xn_fit (hts _ w_1_191) (hts _ w_1_7) (wd_s hwd (158, "no such guarantee") (List.mem_of_getElem? (i := 6) rfl)) (xIAE_hat hts (wd_n hwd)) xIAE_ot (wd_u hwd) (wd_v hwd) hS (hl.1.trans hml.symm) dX0_interest_10 dX0_interest_13 dX0_interest_14 dX0_interest_16 dX0_interest_19 (fun x h => (hnoh x h).elim) (Nat.le_of_ble_eq_true rfl) (Nat.le_of_ble_eq_true rfl) (Nat.le_of_ble_eq_true rfl) (Nat.le_of_ble_eq_true rfl) hlocks (fun t ha9 hz9 hq9 => ⟨_, rfl, ⟨⟨rfl, (by unfold cInterest; rw [hix])⟩, iv_kept hI hq9⟩, ⟨hz9, fun q h1 h2 => hq9 q h1⟩⟩) (fun z h => by cases h) (Nat.le_of_ble_eq_true rfl) (Nat.le_of_ble_eq_true rfl)

set_option maxHeartbeats 4000000 in
set_option maxRecDepth 100000 in
theorem t_look (l : Launch) (D : va_G) (dA : Nat → ClassId) (sa : Nat → Nat) (lo : Nat) (al : Nat → Nat → Nat) (σ μ : CS) (hlt : l.stackTraces = false) (x w : Int32) (n r : Nat) (hw : WFc σ n r) : vx_Met l yX0_look wsX0_look ({ frames := 6, cells := 1, slots := 6, locals := 160 }) (va_Pc [.ref (al 0 0), .int x, .int w] (ivP D dA sa lo al σ μ)) (va_Ql (fun z9 (u : CS) => cLook σ n x w = (0, z9, u)) (ivB D dA lo al μ) (fun q => lo ≤ q)) (vx_X (fun u : CS => u = σ) (fun E u t => ((E = "java/lang/IndexOutOfBoundsException" ∧ (cLook σ n x w).1 = 1)) ∧ ivB D dA lo al μ u t) (fun q => lo ≤ q)) 1 6 (fun q => lo ≤ q) := by
  refine vx_ofW (cc := cX0_look) (maxL := 4) (ret := some .long) (by decide) rfl ?_
  intro p e s m args below meth c s₁ B hml hnoh hv
  obtain ⟨rfl, hI, hwd⟩ := hv
  have hx := B.exec
  have hb := B.bytes
  have hr := B.returns
  have hts : ∀ w ∈ WSall, w.before _ s = true := fun w h => atoms_spec (ws := wsX0_look) B.pre w (List.mem_cons_of_mem _ h)
  have hown : s.vm.findClass RX0 = some m.cls := findClass_of_methodNamed B.named
  have hlocks := B.notSynchronized
  have hK := hwd.1
  have hS : va_S (fun q => lo ≤ q) s.heap s.heap [] := va_S.rf
  have hl := lv_entry ([.ref (al 0 0), .int x, .int w]) (n := 4) (Nat.le_of_ble_eq_true rfl)
  rw [lg_entry_eq]
  generalize (lg_sl ([.ref (al 0 0), .int x, .int w]) ++ List.replicate (4 - (lg_sl ([.ref (al 0 0), .int x, .int w])).length) Slot.unset).toArray = ls at hl ⊢
  have hl : lv_has ls 4 [(0, .ref (al 0 0)), (1, .int x), (2, .int w)] := hl
  obtain ⟨hnG, hnR, hn20, hr60, hgc, hrc, hdr, hgs, hrs, hho, hpa⟩ := id hw
  refine lv_aload_n hx hb dX0_look_0 rfl (lv_at hl 0 rfl) ?_
  refine lv_iload_n hx hb dX0_look_1 rfl (lv_at hl 1 rfl) ?_
  refine va_csq (W.runV (As := [.int x]) (rest := []) ⟨hx, hb, hml, hown, hts⟩ (k_guaranteeNumbered l D dA sa lo al σ μ x n hgc hn20 hgs) (cwV 1 hts (gdV w_1_94 w_1_96 wp_0 w_1_1 w_1_97) rfl rfl rfl (by decide +kernel) ⟨Nat.le_of_ble_eq_true rfl, Nat.le_of_ble_eq_true rfl⟩) ⟨iv_bl, sx_recv hK (c0_at hI) rfl, fun U hU hW => ⟨rfl, iv_use hI hwd hS hU hW⟩⟩ rfl rfl hl.1 rfl (lv_room (Nat.le_of_ble_eq_true rfl)) dX0_look_2 ⟨Nat.le_of_ble_eq_true rfl, Nat.le_of_ble_eq_true rfl⟩) (fun r_2 e_2 => ?_)
  rcases e_2 with ⟨i_2, hi_2, hxi_2, rfl⟩ | ⟨hxi_2, rfl⟩
  · have hix := gIx_some hi_2 (by omega) hxi_2
    have hbi_2 : i_2 < nG σ := (by rw [hnG]; exact hi_2)
    refine W.eq (g2 := F0 m 5 ls (.ref (al 1 i_2) :: [])) rfl ?_
    refine lv_astore_n (lv' := [(3, .ref (al 1 i_2)), (0, .ref (al 0 0)), (1, .int x), (2, .int w)]) hx hb dX0_look_5 rfl hl (by decide) rfl (fun ls hl => ?_)
    refine lv_aload_n hx hb dX0_look_6 rfl (lv_at hl 0 rfl) ?_
    refine lv_ifnonnull (tgt := 20) hx hb dX0_look_7 (by decide) ?_
    refine lv_iload_n hx hb dX0_look_20 rfl (lv_at hl 3 rfl) ?_
    by_cases c_21_0 : w = 0
    · refine lv_tableIn (tgt := 72) hx hb dX0_look_21 (by rw [c_21_0]; decide) (by rw [c_21_0]; decide) (by rw [c_21_0]; rfl) (by decide) ?_
      refine lv_aload_n hx hb dX0_look_72 rfl (lv_at hl 0 rfl) ?_
      refine sx_getN (ci := 1) (C := RX1) (T := TX1) (N := 11) (v := .int (fI σ 1 i_2 1)) hx hb hts inX1 hown hK (c1_at hI hbi_2) rfl 1 (by decide) (va_Nw.use rfl (wd_n hwd (.fieldLinkNest "GuaranteeBook" 87 "GuaranteeBook$Guarantee" "holder" "I" "GuaranteeBook") (List.mem_of_getElem? (i := 13) rfl))) rfl rfl dX0_look_73 ?_
      refine lv_i2l hx hb dX0_look_76 rfl ?_
      refine W.widen (k := 1) (n := 6) (Nat.le_of_ble_eq_true rfl) (Nat.le_of_ble_eq_true rfl) ?_
      exact vx_ret (W.lret (v := (fI σ 1 i_2 1).toInt64) hx hb hr (fun t ht hW => ⟨⟨(fI σ 1 i_2 1).toInt64, σ, rfl, (by unfold cLook; rw [hix]; simp only [if_pos c_21_0]), iv_give ht hI⟩, hS.F ht⟩) hS.2.2 dX0_look_77)
    by_cases c_21_1 : w = 1
    · refine lv_tableIn (tgt := 78) hx hb dX0_look_21 (by rw [c_21_1]; decide) (by rw [c_21_1]; decide) (by rw [c_21_1]; rfl) (by decide) ?_
      refine lv_aload_n hx hb dX0_look_78 rfl (lv_at hl 0 rfl) ?_
      refine sx_getN (ci := 1) (C := RX1) (T := TX1) (N := 11) (v := .long (fL σ 1 i_2 5)) hx hb hts inX1 hown hK (c1_at hI hbi_2) rfl 5 (by decide) (va_Nw.use rfl (wd_n hwd (.fieldLinkNest "GuaranteeBook" 164 "GuaranteeBook$Guarantee" "amount" "J" "GuaranteeBook") (List.mem_of_getElem? (i := 15) rfl))) rfl rfl dX0_look_79 ?_
      refine W.widen (k := 1) (n := 6) (Nat.le_of_ble_eq_true rfl) (Nat.le_of_ble_eq_true rfl) ?_
      exact vx_ret (W.lret (v := fL σ 1 i_2 5) hx hb hr (fun t ht hW => ⟨⟨fL σ 1 i_2 5, σ, rfl, (by unfold cLook; rw [hix]; simp only [if_neg c_21_0, if_pos c_21_1]), iv_give ht hI⟩, hS.F ht⟩) hS.2.2 dX0_look_82)
    by_cases c_21_2 : w = 2
    · refine lv_tableIn (tgt := 83) hx hb dX0_look_21 (by rw [c_21_2]; decide) (by rw [c_21_2]; decide) (by rw [c_21_2]; rfl) (by decide) ?_
      refine lv_aload_n hx hb dX0_look_83 rfl (lv_at hl 0 rfl) ?_
      refine sx_getN (ci := 1) (C := RX1) (T := TX1) (N := 11) (v := .long (fL σ 1 i_2 6)) hx hb hts inX1 hown hK (c1_at hI hbi_2) rfl 6 (by decide) (va_Nw.use rfl (wd_n hwd (.fieldLinkNest "GuaranteeBook" 182 "GuaranteeBook$Guarantee" "needed" "J" "GuaranteeBook") (List.mem_of_getElem? (i := 16) rfl))) rfl rfl dX0_look_84 ?_
      refine W.widen (k := 1) (n := 6) (Nat.le_of_ble_eq_true rfl) (Nat.le_of_ble_eq_true rfl) ?_
      exact vx_ret (W.lret (v := fL σ 1 i_2 6) hx hb hr (fun t ht hW => ⟨⟨fL σ 1 i_2 6, σ, rfl, (by unfold cLook; rw [hix]; simp only [if_neg c_21_0, if_neg c_21_1, if_pos c_21_2]), iv_give ht hI⟩, hS.F ht⟩) hS.2.2 dX0_look_87)
    by_cases c_21_3 : w = 3
    · refine lv_tableIn (tgt := 88) hx hb dX0_look_21 (by rw [c_21_3]; decide) (by rw [c_21_3]; decide) (by rw [c_21_3]; rfl) (by decide) ?_
      refine lv_aload_n hx hb dX0_look_88 rfl (lv_at hl 0 rfl) ?_
      refine vp_callSl (W.runV (As := []) (rest := []) ⟨hx, hb, hml, hown, hts⟩ (k_unneeded l D dA sa lo al σ μ i_2 hbi_2 ) (cwV 0 hts (gdV w_3_7 w_1_151 w_1_152 w_1_9 w_1_153) rfl rfl rfl (by decide +kernel) ⟨Nat.le_of_ble_eq_true rfl, Nat.le_of_ble_eq_true rfl⟩) ⟨iv_bl, sx_recv hK (c1_at hI hbi_2) rfl, fun U hU hW => ⟨rfl, iv_use hI hwd hS hU hW⟩⟩ rfl rfl hl.1 rfl (lv_room (Nat.le_of_ble_eq_true rfl)) dX0_look_89 ⟨Nat.le_of_ble_eq_true rfl, Nat.le_of_ble_eq_true rfl⟩) (fun r_89 e_89 => ?_)
      subst e_89
      refine W.widen (k := 1) (n := 6) (Nat.le_of_ble_eq_true rfl) (Nat.le_of_ble_eq_true rfl) ?_
      exact vx_ret (W.lret (v := gUnn σ i_2) hx hb hr (fun t ht hW => ⟨⟨gUnn σ i_2, σ, rfl, (by unfold cLook; rw [hix]; simp only [if_neg c_21_0, if_neg c_21_1, if_neg c_21_2, if_pos c_21_3]), iv_give ht hI⟩, hS.F ht⟩) hS.2.2 dX0_look_92)
    by_cases c_21_4 : w = 4
    · refine lv_tableIn (tgt := 93) hx hb dX0_look_21 (by rw [c_21_4]; decide) (by rw [c_21_4]; decide) (by rw [c_21_4]; rfl) (by decide) ?_
      refine lv_aload_n hx hb dX0_look_93 rfl (lv_at hl 0 rfl) ?_
      refine vp_callSl (W.runV (As := []) (rest := []) ⟨hx, hb, hml, hown, hts⟩ (k_mayCover l D dA sa lo al σ μ i_2 hbi_2 ) (cwV 0 hts (gdV w_1_146 w_1_147 w_1_148 w_1_9 w_1_149) rfl rfl rfl (by decide +kernel) ⟨Nat.le_of_ble_eq_true rfl, Nat.le_of_ble_eq_true rfl⟩) ⟨iv_bl, sx_recv hK (c1_at hI hbi_2) rfl, fun U hU hW => ⟨rfl, iv_use hI hwd hS hU hW⟩⟩ rfl rfl hl.1 rfl (lv_room (Nat.le_of_ble_eq_true rfl)) dX0_look_94 ⟨Nat.le_of_ble_eq_true rfl, Nat.le_of_ble_eq_true rfl⟩) (fun r_94 e_94 => ?_)
      subst e_94
      refine W.widen (k := 1) (n := 6) (Nat.le_of_ble_eq_true rfl) (Nat.le_of_ble_eq_true rfl) ?_
      exact vx_ret (W.lret (v := gMay σ i_2) hx hb hr (fun t ht hW => ⟨⟨gMay σ i_2, σ, rfl, (by unfold cLook; rw [hix]; simp only [if_neg c_21_0, if_neg c_21_1, if_neg c_21_2, if_neg c_21_3, if_pos c_21_4]), iv_give ht hI⟩, hS.F ht⟩) hS.2.2 dX0_look_97)
    by_cases c_21_5 : w = 5
    · refine lv_tableIn (tgt := 98) hx hb dX0_look_21 (by rw [c_21_5]; decide) (by rw [c_21_5]; decide) (by rw [c_21_5]; rfl) (by decide) ?_
      refine lv_aload_n hx hb dX0_look_98 rfl (lv_at hl 0 rfl) ?_
      refine sx_getN (ci := 1) (C := RX1) (T := TX1) (N := 11) (v := .int (fI σ 1 i_2 8)) hx hb hts inX1 hown hK (c1_at hI hbi_2) rfl 8 (by decide) (va_Nw.use rfl (wd_n hwd (.fieldLinkNest "GuaranteeBook" 191 "GuaranteeBook$Guarantee" "uses" "I" "GuaranteeBook") (List.mem_of_getElem? (i := 18) rfl))) rfl rfl dX0_look_99 ?_
      refine lv_i2l hx hb dX0_look_102 rfl ?_
      refine W.widen (k := 1) (n := 6) (Nat.le_of_ble_eq_true rfl) (Nat.le_of_ble_eq_true rfl) ?_
      exact vx_ret (W.lret (v := (fI σ 1 i_2 8).toInt64) hx hb hr (fun t ht hW => ⟨⟨(fI σ 1 i_2 8).toInt64, σ, rfl, (by unfold cLook; rw [hix]; simp only [if_neg c_21_0, if_neg c_21_1, if_neg c_21_2, if_neg c_21_3, if_neg c_21_4, if_pos c_21_5]), iv_give ht hI⟩, hS.F ht⟩) hS.2.2 dX0_look_103)
    by_cases c_21_6 : w = 6
    · refine lv_tableIn (tgt := 104) hx hb dX0_look_21 (by rw [c_21_6]; decide) (by rw [c_21_6]; decide) (by rw [c_21_6]; rfl) (by decide) ?_
      refine lv_aload_n hx hb dX0_look_104 rfl (lv_at hl 0 rfl) ?_
      refine sx_getN (ci := 1) (C := RX1) (T := TX1) (N := 11) (v := .int (fI σ 1 i_2 9)) hx hb hts inX1 hown hK (c1_at hI hbi_2) rfl 9 (by decide) (va_Nw.use rfl (wd_n hwd (.fieldLinkNest "GuaranteeBook" 149 "GuaranteeBook$Guarantee" "closed" "Z" "GuaranteeBook") (List.mem_of_getElem? (i := 19) rfl))) rfl rfl dX0_look_105 ?_
      refine lv_if_eq (tgt := 115) hx hb dX0_look_108 (by decide) (fun c_108 => ?_) (fun c_108 => ?_)
      · refine lv_lconst (v := 0) hx hb dX0_look_115 (by decide) ?_
        refine W.widen (k := 1) (n := 6) (Nat.le_of_ble_eq_true rfl) (Nat.le_of_ble_eq_true rfl) ?_
        exact vx_ret (W.lret (v := 0) hx hb hr (fun t ht hW => ⟨⟨0, σ, rfl, (by unfold cLook; rw [hix]; simp only [if_neg c_21_0, if_neg c_21_1, if_neg c_21_2, if_neg c_21_3, if_neg c_21_4, if_neg c_21_5, if_pos c_21_6, if_pos c_108]), iv_give ht hI⟩, hS.F ht⟩) hS.2.2 dX0_look_116)
      · refine lv_lconst (v := 1) hx hb dX0_look_111 (by decide) ?_
        refine lv_goto (tgt := 116) hx hb dX0_look_112 (by decide) ?_
        refine W.widen (k := 1) (n := 6) (Nat.le_of_ble_eq_true rfl) (Nat.le_of_ble_eq_true rfl) ?_
        exact vx_ret (W.lret (v := 1) hx hb hr (fun t ht hW => ⟨⟨1, σ, rfl, (by unfold cLook; rw [hix]; simp only [if_neg c_21_0, if_neg c_21_1, if_neg c_21_2, if_neg c_21_3, if_neg c_21_4, if_neg c_21_5, if_pos c_21_6, if_neg c_108]), iv_give ht hI⟩, hS.F ht⟩) hS.2.2 dX0_look_116)
    by_cases c_21_7 : w = 7
    · refine lv_tableIn (tgt := 117) hx hb dX0_look_21 (by rw [c_21_7]; decide) (by rw [c_21_7]; decide) (by rw [c_21_7]; rfl) (by decide) ?_
      refine lv_aload_n hx hb dX0_look_117 rfl (lv_at hl 0 rfl) ?_
      refine vp_callSl (W.runV (As := []) (rest := []) ⟨hx, hb, hml, hown, hts⟩ (k_risk l D dA sa lo al σ μ i_2 hbi_2 ) (cwV 0 hts (gdV w_3_8 w_3_9 w_3_10 w_1_9 w_3_11) rfl rfl rfl (by decide +kernel) ⟨Nat.le_of_ble_eq_true rfl, Nat.le_of_ble_eq_true rfl⟩) ⟨iv_bl, sx_recv hK (c1_at hI hbi_2) rfl, fun U hU hW => ⟨rfl, iv_use hI hwd hS hU hW⟩⟩ rfl rfl hl.1 rfl (lv_room (Nat.le_of_ble_eq_true rfl)) dX0_look_118 ⟨Nat.le_of_ble_eq_true rfl, Nat.le_of_ble_eq_true rfl⟩) (fun r_118 e_118 => ?_)
      subst e_118
      refine W.widen (k := 1) (n := 6) (Nat.le_of_ble_eq_true rfl) (Nat.le_of_ble_eq_true rfl) ?_
      exact vx_ret (W.lret (v := gRisk σ i_2) hx hb hr (fun t ht hW => ⟨⟨gRisk σ i_2, σ, rfl, (by unfold cLook; rw [hix]; simp only [if_neg c_21_0, if_neg c_21_1, if_neg c_21_2, if_neg c_21_3, if_neg c_21_4, if_neg c_21_5, if_neg c_21_6, if_pos c_21_7]), iv_give ht hI⟩, hS.F ht⟩) hS.2.2 dX0_look_121)
    by_cases c_21_8 : w = 8
    · refine lv_tableIn (tgt := 122) hx hb dX0_look_21 (by rw [c_21_8]; decide) (by rw [c_21_8]; decide) (by rw [c_21_8]; rfl) (by decide) ?_
      refine lv_aload_n hx hb dX0_look_122 rfl (lv_at hl 0 rfl) ?_
      refine sx_getN (ci := 1) (C := RX1) (T := TX1) (N := 11) (v := .long (fL σ 1 i_2 7)) hx hb hts inX1 hown hK (c1_at hI hbi_2) rfl 7 (by decide) (va_Nw.use rfl (wd_n hwd (.fieldLinkNest "GuaranteeBook" 197 "GuaranteeBook$Guarantee" "claimed" "J" "GuaranteeBook") (List.mem_of_getElem? (i := 17) rfl))) rfl rfl dX0_look_123 ?_
      refine W.widen (k := 1) (n := 6) (Nat.le_of_ble_eq_true rfl) (Nat.le_of_ble_eq_true rfl) ?_
      exact vx_ret (W.lret (v := fL σ 1 i_2 7) hx hb hr (fun t ht hW => ⟨⟨fL σ 1 i_2 7, σ, rfl, (by unfold cLook; rw [hix]; simp only [if_neg c_21_0, if_neg c_21_1, if_neg c_21_2, if_neg c_21_3, if_neg c_21_4, if_neg c_21_5, if_neg c_21_6, if_neg c_21_7, if_pos c_21_8]), iv_give ht hI⟩, hS.F ht⟩) hS.2.2 dX0_look_126)
    refine lv_tableOut (tgt := 127) hx hb dX0_look_21 (sw_out8 c_21_0 c_21_1 c_21_2 c_21_3 c_21_4 c_21_5 c_21_6 c_21_7 c_21_8) (by decide) ?_
    exact vx_throwS (names := xnames) (text := "no such what of a guarantee") (sa := sa 200) hx hb hlt hown xIOB_fit xn_fit (hts _ w_2_232) (hts _ w_1_13) (wd_s hwd (200, "no such what of a guarantee") (List.mem_of_getElem? (i := 7) rfl)) (xIOB_hat hts (wd_n hwd)) xIOB_ot (wd_u hwd) (wd_v hwd) hS (hl.1.trans hml.symm) dX0_look_127 dX0_look_130 dX0_look_131 dX0_look_133 dX0_look_136 (fun x h => (hnoh x h).elim) (Nat.le_of_ble_eq_true rfl) (Nat.le_of_ble_eq_true rfl) (Nat.le_of_ble_eq_true rfl) (Nat.le_of_ble_eq_true rfl) hlocks (fun t ha9 hz9 hq9 => ⟨_, rfl, ⟨⟨rfl, (by unfold cLook; rw [hix]; simp only [if_neg c_21_0, if_neg c_21_1, if_neg c_21_2, if_neg c_21_3, if_neg c_21_4, if_neg c_21_5, if_neg c_21_6, if_neg c_21_7, if_neg c_21_8])⟩, iv_kept hI hq9⟩, ⟨hz9, fun q h1 h2 => hq9 q h1⟩⟩) (fun z h => by cases h) (Nat.le_of_ble_eq_true rfl) (Nat.le_of_ble_eq_true rfl)
  · have hix := gIx_none hxi_2
    refine W.eq (g2 := F0 m 5 ls (.null :: [])) rfl ?_
    refine lv_astore_nN (lv' := [(3, .null), (0, .ref (al 0 0)), (1, .int x), (2, .int w)]) hx hb dX0_look_5 rfl hl (by decide) rfl (fun ls hl => ?_)
    refine lv_aload_nN hx hb dX0_look_6 rfl (lv_at hl 0 rfl) ?_
    refine lv_ifnonnullN hx hb dX0_look_7 ?_
    exact vx_throwS (names := xnames) (text := "no such guarantee") (sa := sa 158) hx hb hlt hown xIOB_fit xn_fit (hts _ w_2_232) (hts _ w_1_13) (wd_s hwd (158, "no such guarantee") (List.mem_of_getElem? (i := 6) rfl)) (xIOB_hat hts (wd_n hwd)) xIOB_ot (wd_u hwd) (wd_v hwd) hS (hl.1.trans hml.symm) dX0_look_10 dX0_look_13 dX0_look_14 dX0_look_16 dX0_look_19 (fun x h => (hnoh x h).elim) (Nat.le_of_ble_eq_true rfl) (Nat.le_of_ble_eq_true rfl) (Nat.le_of_ble_eq_true rfl) (Nat.le_of_ble_eq_true rfl) hlocks (fun t ha9 hz9 hq9 => ⟨_, rfl, ⟨⟨rfl, (by unfold cLook; rw [hix])⟩, iv_kept hI hq9⟩, ⟨hz9, fun q h1 h2 => hq9 q h1⟩⟩) (fun z h => by cases h) (Nat.le_of_ble_eq_true rfl) (Nat.le_of_ble_eq_true rfl)

set_option maxHeartbeats 4000000 in
set_option maxRecDepth 100000 in
theorem t_end (l : Launch) (D : va_G) (dA : Nat → ClassId) (sa : Nat → Nat) (lo : Nat) (al : Nat → Nat → Nat) (σ μ : CS) (hlt : l.stackTraces = false) (x how : Int32) (n r : Nat) (hw : WFc σ n r) : vx_Met l yX0_end wsX0_end ({ frames := 6, cells := 1, slots := 6, locals := 160 }) (va_Pc [.ref (al 0 0), .int x, .int how] (ivP D dA sa lo al σ μ)) (va_Qi (fun z9 (u : CS) => cEnd σ r x how = (0, z9, u)) (ivB D dA lo al μ) (fun q => lo ≤ q)) (vx_X (fun u : CS => u = σ) (fun E u t => ((E = "java/lang/IllegalArgumentException" ∧ (cEnd σ r x how).1 = 1)) ∧ ivB D dA lo al μ u t) (fun q => lo ≤ q)) 1 6 (fun q => lo ≤ q) := by
  refine vx_ofW (cc := cX0_end) (maxL := 4) (ret := some .int) (by decide) rfl ?_
  intro p e s m args below meth c s₁ B hml hnoh hv
  obtain ⟨rfl, hI, hwd⟩ := hv
  have hx := B.exec
  have hb := B.bytes
  have hr := B.returns
  have hts : ∀ w ∈ WSall, w.before _ s = true := fun w h => atoms_spec (ws := wsX0_end) B.pre w (List.mem_cons_of_mem _ h)
  have hown : s.vm.findClass RX0 = some m.cls := findClass_of_methodNamed B.named
  have hlocks := B.notSynchronized
  have hK := hwd.1
  have hS : va_S (fun q => lo ≤ q) s.heap s.heap [] := va_S.rf
  have hl := lv_entry ([.ref (al 0 0), .int x, .int how]) (n := 4) (Nat.le_of_ble_eq_true rfl)
  rw [lg_entry_eq]
  generalize (lg_sl ([.ref (al 0 0), .int x, .int how]) ++ List.replicate (4 - (lg_sl ([.ref (al 0 0), .int x, .int how])).length) Slot.unset).toArray = ls at hl ⊢
  have hl : lv_has ls 4 [(0, .ref (al 0 0)), (1, .int x), (2, .int how)] := hl
  obtain ⟨hnG, hnR, hn20, hr60, hgc, hrc, hdr, hgs, hrs, hho, hpa⟩ := id hw
  refine lv_aload_n hx hb dX0_end_0 rfl (lv_at hl 0 rfl) ?_
  refine lv_iload_n hx hb dX0_end_1 rfl (lv_at hl 1 rfl) ?_
  refine va_csq (W.runV (As := [.int x]) (rest := []) ⟨hx, hb, hml, hown, hts⟩ (k_reservationNumbered l D dA sa lo al σ μ x r hrc hr60 hrs) (cwV 1 hts (gdV w_2_168 w_2_170 wp_8 w_1_1 w_2_171) rfl rfl rfl (by decide +kernel) ⟨Nat.le_of_ble_eq_true rfl, Nat.le_of_ble_eq_true rfl⟩) ⟨iv_bl, sx_recv hK (c0_at hI) rfl, fun U hU hW => ⟨rfl, iv_use hI hwd hS hU hW⟩⟩ rfl rfl hl.1 rfl (lv_room (Nat.le_of_ble_eq_true rfl)) dX0_end_2 ⟨Nat.le_of_ble_eq_true rfl, Nat.le_of_ble_eq_true rfl⟩) (fun r_2 e_2 => ?_)
  rcases e_2 with ⟨i_2, hi_2, hxi_2, rfl⟩ | ⟨hxi_2, rfl⟩
  · have hix := gIx_some hi_2 (by omega) hxi_2
    have hbi_2 : i_2 < nR σ := (by rw [hnR]; omega)
    refine W.eq (g2 := F0 m 5 ls (.ref (al 4 i_2) :: [])) rfl ?_
    refine lv_astore_n (lv' := [(3, .ref (al 4 i_2)), (0, .ref (al 0 0)), (1, .int x), (2, .int how)]) hx hb dX0_end_5 rfl hl (by decide) rfl (fun ls hl => ?_)
    refine lv_aload_n hx hb dX0_end_6 rfl (lv_at hl 0 rfl) ?_
    refine lv_ifnull hx hb dX0_end_7 ?_
    refine lv_iload_n hx hb dX0_end_10 rfl (lv_at hl 3 rfl) ?_
    refine lv_iconst (v := 1) hx hb dX0_end_11 (by decide) ?_
    refine lv_icmp_eq (tgt := 30) hx hb dX0_end_12 (by decide) (fun c_12 => ?_) (fun c_12 => ?_)
    · refine lv_aload_n hx hb dX0_end_30 rfl (lv_at hl 0 rfl) ?_
      refine sx_getN (ci := 4) (C := RX4) (T := TX4) (N := 6) (v := .int (fI σ 4 i_2 5)) hx hb hts inX4 hown hK (c4_at hI hbi_2) rfl 5 (by decide) (va_Nw.use rfl (wd_n hwd (.fieldLinkNest "GuaranteeBook" 123 "GuaranteeBook$Reservation" "state" "I" "GuaranteeBook") (List.mem_of_getElem? (i := 5) rfl))) rfl rfl dX0_end_31 ?_
      refine lv_if_eq (tgt := 39) hx hb dX0_end_34 (by decide) (fun c_34 => ?_) (fun c_34 => ?_)
      · obtain ⟨p, hp4, hpp, hpg⟩ := hpa i_2 (by omega)
        have hpg : ∀ k, k < p → ∃ g, fR σ 5 i_2 k = some g ∧ g < nG σ := by rw [hnG]; exact hpg
        have hpn : pN σ i_2 = p := pN_of hpp hp4
        refine lv_aload_n hx hb dX0_end_39 rfl (lv_at hl 0 rfl) ?_
        refine va_callv (va_runV (As := []) (rest := []) ⟨hx, hb, hml, hown, hts⟩ (k_dropParts l D dA sa lo al σ μ i_2 hbi_2 p hpp hp4 hpg) (cwV 0 hts (gdV w_2_173 w_2_174 w_2_175 w_1_2 w_2_176) rfl rfl rfl (by decide +kernel) ⟨Nat.le_of_ble_eq_true rfl, Nat.le_of_ble_eq_true rfl⟩) ⟨iv_bl, sx_recv hK (c4_at hI hbi_2) rfl, fun U hU hW => ⟨rfl, iv_use hI hwd hS hU hW⟩⟩ rfl rfl hl.1 rfl (lv_room (Nat.le_of_ble_eq_true rfl)) dX0_end_40 ⟨Nat.le_of_ble_eq_true rfl, Nat.le_of_ble_eq_true rfl⟩) hS (fun q _ h => h) (fun q h => h) (fun u9 T9 H1 locs ht9 hvm9 e_40 hB9 hz9 hk9 hS => ?_)
        have hI := iv_take ht9 hB9
        clear hB9 hk9
        obtain rfl := e_40
        have hbd : i_2 < nR (uI (rDrop σ i_2 p) 4 i_2 2 0) := by rw [nR_uI, rDrop_N]; exact hbi_2
        refine lv_aload_n hx hb dX0_end_43 rfl (lv_at hl 1 rfl) ?_
        refine lv_aload_n hx hb dX0_end_44 rfl (lv_at hl 0 rfl) ?_
        refine lv_iload_n hx hb dX0_end_45 rfl (lv_at hl 3 rfl) ?_
        refine va_callv (va_runV (As := [.ref (al 4 i_2), .int how]) (rest := []) ⟨hx, hb, hml, hown, hts⟩ (k_finish l D dA sa lo al (uI (rDrop σ i_2 p) 4 i_2 2 0) μ i_2 hbd how) (cwV 2 hts (gdV w_2_177 w_2_179 wp_9 w_1_1 w_2_180) rfl rfl rfl (by decide +kernel) ⟨Nat.le_of_ble_eq_true rfl, Nat.le_of_ble_eq_true rfl⟩) ⟨iv_bl, sx_recv hK (c0_at hI) rfl, fun U hU hW => ⟨rfl, iv_use hI hwd hS hU hW⟩⟩ rfl rfl hl.1 rfl (lv_room (Nat.le_of_ble_eq_true rfl)) dX0_end_46 ⟨Nat.le_of_ble_eq_true rfl, Nat.le_of_ble_eq_true rfl⟩) hS (fun q _ h => h) (fun q h => h) (fun u9 T9 H1 locs ht9 hvm9 e_46 hB9 hz9 hk9 hS => ?_)
        have hI := iv_take ht9 hB9
        clear hB9 hk9
        obtain rfl := e_46
        refine lv_iconst (v := 1) hx hb dX0_end_49 (by decide) ?_
        refine W.widen (k := 1) (n := 6) (Nat.le_of_ble_eq_true rfl) (Nat.le_of_ble_eq_true rfl) ?_
        exact vx_ret (W.iret (v := 1) hx hb hr (fun t ht hW => ⟨⟨1, rFin (uI (rDrop σ i_2 p) 4 i_2 2 0) i_2 how, rfl, (by unfold cEnd; rw [hix]; simp only [if_pos c_12, if_pos c_34]; unfold rGo; rw [hpn]), iv_give ht hI⟩, hS.F ht⟩) hS.2.2 dX0_end_50)
      · refine lv_iconst (v := 0) hx hb dX0_end_37 (by decide) ?_
        refine W.widen (k := 1) (n := 6) (Nat.le_of_ble_eq_true rfl) (Nat.le_of_ble_eq_true rfl) ?_
        exact vx_ret (W.iret (v := 0) hx hb hr (fun t ht hW => ⟨⟨0, σ, rfl, (by unfold cEnd; rw [hix]; simp only [if_pos c_12, if_neg c_34]), iv_give ht hI⟩, hS.F ht⟩) hS.2.2 dX0_end_38)
    · refine lv_iload_n hx hb dX0_end_15 rfl (lv_at hl 3 rfl) ?_
      refine lv_iconst (v := 2) hx hb dX0_end_16 (by decide) ?_
      refine lv_icmp_eq (tgt := 30) hx hb dX0_end_17 (by decide) (fun c_17 => ?_) (fun c_17 => ?_)
      · refine lv_aload_n hx hb dX0_end_30 rfl (lv_at hl 0 rfl) ?_
        refine sx_getN (ci := 4) (C := RX4) (T := TX4) (N := 6) (v := .int (fI σ 4 i_2 5)) hx hb hts inX4 hown hK (c4_at hI hbi_2) rfl 5 (by decide) (va_Nw.use rfl (wd_n hwd (.fieldLinkNest "GuaranteeBook" 123 "GuaranteeBook$Reservation" "state" "I" "GuaranteeBook") (List.mem_of_getElem? (i := 5) rfl))) rfl rfl dX0_end_31 ?_
        refine lv_if_eq (tgt := 39) hx hb dX0_end_34 (by decide) (fun c_34 => ?_) (fun c_34 => ?_)
        · obtain ⟨p, hp4, hpp, hpg⟩ := hpa i_2 (by omega)
          have hpg : ∀ k, k < p → ∃ g, fR σ 5 i_2 k = some g ∧ g < nG σ := by rw [hnG]; exact hpg
          have hpn : pN σ i_2 = p := pN_of hpp hp4
          refine lv_aload_n hx hb dX0_end_39 rfl (lv_at hl 0 rfl) ?_
          refine va_callv (va_runV (As := []) (rest := []) ⟨hx, hb, hml, hown, hts⟩ (k_dropParts l D dA sa lo al σ μ i_2 hbi_2 p hpp hp4 hpg) (cwV 0 hts (gdV w_2_173 w_2_174 w_2_175 w_1_2 w_2_176) rfl rfl rfl (by decide +kernel) ⟨Nat.le_of_ble_eq_true rfl, Nat.le_of_ble_eq_true rfl⟩) ⟨iv_bl, sx_recv hK (c4_at hI hbi_2) rfl, fun U hU hW => ⟨rfl, iv_use hI hwd hS hU hW⟩⟩ rfl rfl hl.1 rfl (lv_room (Nat.le_of_ble_eq_true rfl)) dX0_end_40 ⟨Nat.le_of_ble_eq_true rfl, Nat.le_of_ble_eq_true rfl⟩) hS (fun q _ h => h) (fun q h => h) (fun u9 T9 H1 locs ht9 hvm9 e_40 hB9 hz9 hk9 hS => ?_)
          have hI := iv_take ht9 hB9
          clear hB9 hk9
          obtain rfl := e_40
          have hbd : i_2 < nR (uI (rDrop σ i_2 p) 4 i_2 2 0) := by rw [nR_uI, rDrop_N]; exact hbi_2
          refine lv_aload_n hx hb dX0_end_43 rfl (lv_at hl 1 rfl) ?_
          refine lv_aload_n hx hb dX0_end_44 rfl (lv_at hl 0 rfl) ?_
          refine lv_iload_n hx hb dX0_end_45 rfl (lv_at hl 3 rfl) ?_
          refine va_callv (va_runV (As := [.ref (al 4 i_2), .int how]) (rest := []) ⟨hx, hb, hml, hown, hts⟩ (k_finish l D dA sa lo al (uI (rDrop σ i_2 p) 4 i_2 2 0) μ i_2 hbd how) (cwV 2 hts (gdV w_2_177 w_2_179 wp_9 w_1_1 w_2_180) rfl rfl rfl (by decide +kernel) ⟨Nat.le_of_ble_eq_true rfl, Nat.le_of_ble_eq_true rfl⟩) ⟨iv_bl, sx_recv hK (c0_at hI) rfl, fun U hU hW => ⟨rfl, iv_use hI hwd hS hU hW⟩⟩ rfl rfl hl.1 rfl (lv_room (Nat.le_of_ble_eq_true rfl)) dX0_end_46 ⟨Nat.le_of_ble_eq_true rfl, Nat.le_of_ble_eq_true rfl⟩) hS (fun q _ h => h) (fun q h => h) (fun u9 T9 H1 locs ht9 hvm9 e_46 hB9 hz9 hk9 hS => ?_)
          have hI := iv_take ht9 hB9
          clear hB9 hk9
          obtain rfl := e_46
          refine lv_iconst (v := 1) hx hb dX0_end_49 (by decide) ?_
          refine W.widen (k := 1) (n := 6) (Nat.le_of_ble_eq_true rfl) (Nat.le_of_ble_eq_true rfl) ?_
          exact vx_ret (W.iret (v := 1) hx hb hr (fun t ht hW => ⟨⟨1, rFin (uI (rDrop σ i_2 p) 4 i_2 2 0) i_2 how, rfl, (by unfold cEnd; rw [hix]; simp only [if_neg c_12, if_pos c_17, if_pos c_34]; unfold rGo; rw [hpn]), iv_give ht hI⟩, hS.F ht⟩) hS.2.2 dX0_end_50)
        · refine lv_iconst (v := 0) hx hb dX0_end_37 (by decide) ?_
          refine W.widen (k := 1) (n := 6) (Nat.le_of_ble_eq_true rfl) (Nat.le_of_ble_eq_true rfl) ?_
          exact vx_ret (W.iret (v := 0) hx hb hr (fun t ht hW => ⟨⟨0, σ, rfl, (by unfold cEnd; rw [hix]; simp only [if_neg c_12, if_pos c_17, if_neg c_34]), iv_give ht hI⟩, hS.F ht⟩) hS.2.2 dX0_end_38)
      · exact vx_throwS (names := xnames) (text := "no such reservation or way to end") (sa := sa 121) hx hb hlt hown xIAE_fit xn_fit (hts _ w_1_191) (hts _ w_1_7) (wd_s hwd (121, "no such reservation or way to end") (List.mem_of_getElem? (i := 4) rfl)) (xIAE_hat hts (wd_n hwd)) xIAE_ot (wd_u hwd) (wd_v hwd) hS (hl.1.trans hml.symm) dX0_end_20 dX0_end_23 dX0_end_24 dX0_end_26 dX0_end_29 (fun x h => (hnoh x h).elim) (Nat.le_of_ble_eq_true rfl) (Nat.le_of_ble_eq_true rfl) (Nat.le_of_ble_eq_true rfl) (Nat.le_of_ble_eq_true rfl) hlocks (fun t ha9 hz9 hq9 => ⟨_, rfl, ⟨⟨rfl, (by unfold cEnd; rw [hix]; simp only [if_neg c_12, if_neg c_17])⟩, iv_kept hI hq9⟩, ⟨hz9, fun q h1 h2 => hq9 q h1⟩⟩) (fun z h => by cases h) (Nat.le_of_ble_eq_true rfl) (Nat.le_of_ble_eq_true rfl)
  · have hix := gIx_none hxi_2
    refine W.eq (g2 := F0 m 5 ls (.null :: [])) rfl ?_
    refine lv_astore_nN (lv' := [(3, .null), (0, .ref (al 0 0)), (1, .int x), (2, .int how)]) hx hb dX0_end_5 rfl hl (by decide) rfl (fun ls hl => ?_)
    refine lv_aload_nN hx hb dX0_end_6 rfl (lv_at hl 0 rfl) ?_
    refine lv_ifnullN (tgt := 20) hx hb dX0_end_7 (by decide) ?_
    exact vx_throwS (names := xnames) (text := "no such reservation or way to end") (sa := sa 121) hx hb hlt hown xIAE_fit xn_fit (hts _ w_1_191) (hts _ w_1_7) (wd_s hwd (121, "no such reservation or way to end") (List.mem_of_getElem? (i := 4) rfl)) (xIAE_hat hts (wd_n hwd)) xIAE_ot (wd_u hwd) (wd_v hwd) hS (hl.1.trans hml.symm) dX0_end_20 dX0_end_23 dX0_end_24 dX0_end_26 dX0_end_29 (fun x h => (hnoh x h).elim) (Nat.le_of_ble_eq_true rfl) (Nat.le_of_ble_eq_true rfl) (Nat.le_of_ble_eq_true rfl) (Nat.le_of_ble_eq_true rfl) hlocks (fun t ha9 hz9 hq9 => ⟨_, rfl, ⟨⟨rfl, (by unfold cEnd; rw [hix])⟩, iv_kept hI hq9⟩, ⟨hz9, fun q h1 h2 => hq9 q h1⟩⟩) (fun z h => by cases h) (Nat.le_of_ble_eq_true rfl) (Nat.le_of_ble_eq_true rfl)

set_option maxHeartbeats 4000000 in
set_option maxRecDepth 100000 in
theorem t_reduce (l : Launch) (D : va_G) (dA : Nat → ClassId) (sa : Nat → Nat) (lo : Nat) (al : Nat → Nat → Nat) (σ μ : CS) (hlt : l.stackTraces = false) (x : Int32) (ct : Int64) (n r : Nat) (hw : WFc σ n r) : vx_Met l yX0_reduce wsX0_reduce ({ frames := 6, cells := 1, slots := 6, locals := 160 }) (va_Pc [.ref (al 0 0), .int x, .long ct] (ivP D dA sa lo al σ μ)) (va_Ql (fun z9 (u : CS) => cReduce σ r x ct = (0, z9, u)) (ivB D dA lo al μ) (fun q => lo ≤ q)) (vx_X (fun u : CS => u = σ) (fun E u t => ((E = "java/lang/IllegalArgumentException" ∧ (cReduce σ r x ct).1 = 1)) ∧ ivB D dA lo al μ u t) (fun q => lo ≤ q)) 1 6 (fun q => lo ≤ q) := by
  refine vx_ofW (cc := cX0_reduce) (maxL := 5) (ret := some .long) (by decide) rfl ?_
  intro p e s m args below meth c s₁ B hml hnoh hv
  obtain ⟨rfl, hI, hwd⟩ := hv
  have hx := B.exec
  have hb := B.bytes
  have hr := B.returns
  have hts : ∀ w ∈ WSall, w.before _ s = true := fun w h => atoms_spec (ws := wsX0_reduce) B.pre w (List.mem_cons_of_mem _ h)
  have hown : s.vm.findClass RX0 = some m.cls := findClass_of_methodNamed B.named
  have hlocks := B.notSynchronized
  have hK := hwd.1
  have hS : va_S (fun q => lo ≤ q) s.heap s.heap [] := va_S.rf
  have hl := lv_entry ([.ref (al 0 0), .int x, .long ct]) (n := 5) (Nat.le_of_ble_eq_true rfl)
  rw [lg_entry_eq]
  generalize (lg_sl ([.ref (al 0 0), .int x, .long ct]) ++ List.replicate (5 - (lg_sl ([.ref (al 0 0), .int x, .long ct])).length) Slot.unset).toArray = ls at hl ⊢
  have hl : lv_has ls 5 [(0, .ref (al 0 0)), (1, .int x), (2, .long ct)] := hl
  obtain ⟨hnG, hnR, hn20, hr60, hgc, hrc, hdr, hgs, hrs, hho, hpa⟩ := id hw
  refine lv_aload_n hx hb dX0_reduce_0 rfl (lv_at hl 0 rfl) ?_
  refine lv_iload_n hx hb dX0_reduce_1 rfl (lv_at hl 1 rfl) ?_
  refine va_csq (W.runV (As := [.int x]) (rest := []) ⟨hx, hb, hml, hown, hts⟩ (k_reservationNumbered l D dA sa lo al σ μ x r hrc hr60 hrs) (cwV 1 hts (gdV w_2_168 w_2_170 wp_8 w_1_1 w_2_171) rfl rfl rfl (by decide +kernel) ⟨Nat.le_of_ble_eq_true rfl, Nat.le_of_ble_eq_true rfl⟩) ⟨iv_bl, sx_recv hK (c0_at hI) rfl, fun U hU hW => ⟨rfl, iv_use hI hwd hS hU hW⟩⟩ rfl rfl hl.1 rfl (lv_room (Nat.le_of_ble_eq_true rfl)) dX0_reduce_2 ⟨Nat.le_of_ble_eq_true rfl, Nat.le_of_ble_eq_true rfl⟩) (fun r_2 e_2 => ?_)
  rcases e_2 with ⟨i_2, hi_2, hxi_2, rfl⟩ | ⟨hxi_2, rfl⟩
  · have hix := gIx_some hi_2 (by omega) hxi_2
    have hbi_2 : i_2 < nR σ := (by rw [hnR]; omega)
    refine W.eq (g2 := F0 m 5 ls (.ref (al 4 i_2) :: [])) rfl ?_
    refine lv_astore (lv' := [(4, .ref (al 4 i_2)), (0, .ref (al 0 0)), (1, .int x), (2, .long ct)]) hx hb dX0_reduce_5 hl (by decide) rfl (fun ls hl => ?_)
    refine lv_aload hx hb dX0_reduce_7 (lv_at hl 0 rfl) ?_
    refine lv_ifnull hx hb dX0_reduce_9 ?_
    refine lv_lload_n hx hb dX0_reduce_12 rfl (lv_at hl 3 rfl) ?_
    refine lv_lconst (v := 1) hx hb dX0_reduce_13 (by decide) ?_
    refine W.lcmp hx hb dX0_reduce_14 ?_
    refine lv_if_ge (tgt := 28) hx hb dX0_reduce_15 (by decide) (fun c_15 => ?_) (fun c_15 => ?_)
    · have c_15 : 1 ≤ ct := (lg_cmp_ge _ _).mp c_15
      obtain ⟨p, hp4, hpp, hpg⟩ := hpa i_2 (by omega)
      have hpg : ∀ k, k < p → ∃ g, fR σ 5 i_2 k = some g ∧ g < nG σ := by rw [hnG]; exact hpg
      have hpn : pN σ i_2 = p := pN_of hpp hp4
      have hrc9 : rCov σ i_2 = sumL (fL σ 6 i_2) p := by unfold rCov; rw [hpn]
      refine lv_aload hx hb dX0_reduce_28 (lv_at hl 0 rfl) ?_
      refine sx_getN (ci := 4) (C := RX4) (T := TX4) (N := 6) (v := .int (fI σ 4 i_2 5)) hx hb hts inX4 hown hK (c4_at hI hbi_2) rfl 5 (by decide) (va_Nw.use rfl (wd_n hwd (.fieldLinkNest "GuaranteeBook" 123 "GuaranteeBook$Reservation" "state" "I" "GuaranteeBook") (List.mem_of_getElem? (i := 5) rfl))) rfl rfl dX0_reduce_30 ?_
      refine lv_if_ne (tgt := 46) hx hb dX0_reduce_33 (by decide) (fun c_33 => ?_) (fun c_33 => ?_)
      · refine lv_ldc2 (v := (-1)) hx hb hown (hts _ w_1_166) dX0_reduce_46 ?_
        refine W.widen (k := 1) (n := 6) (Nat.le_of_ble_eq_true rfl) (Nat.le_of_ble_eq_true rfl) ?_
        exact vx_ret (W.lret (v := (-1)) hx hb hr (fun t ht hW => ⟨⟨(-1), σ, rfl, (by unfold cReduce; rw [hix]; simp only [if_pos c_15, if_neg c_33]), iv_give ht hI⟩, hS.F ht⟩) hS.2.2 dX0_reduce_49)
      · refine lv_aload hx hb dX0_reduce_36 (lv_at hl 0 rfl) ?_
        refine vp_callSl (W.runV (As := []) (rest := []) ⟨hx, hb, hml, hown, hts⟩ (k_covered l D dA sa lo al σ μ i_2 hbi_2 p hpp hp4) (cwV 0 hts (gdV w_2_189 w_2_190 w_2_191 w_1_2 w_2_192) rfl rfl rfl (by decide +kernel) ⟨Nat.le_of_ble_eq_true rfl, Nat.le_of_ble_eq_true rfl⟩) ⟨iv_bl, sx_recv hK (c4_at hI hbi_2) rfl, fun U hU hW => ⟨rfl, iv_use hI hwd hS hU hW⟩⟩ rfl rfl hl.1 rfl (lv_room (Nat.le_of_ble_eq_true rfl)) dX0_reduce_38 ⟨Nat.le_of_ble_eq_true rfl, Nat.le_of_ble_eq_true rfl⟩) (fun r_38 e_38 => ?_)
        subst e_38
        refine lv_lload_n hx hb dX0_reduce_41 rfl (lv_at hl 3 rfl) ?_
        refine W.lcmp hx hb dX0_reduce_42 ?_
        refine lv_if_gt (tgt := 50) hx hb dX0_reduce_43 (by decide) (fun c_43 => ?_) (fun c_43 => ?_)
        · have c_43 : ct < (sumL (fL σ 6 i_2) p) := (lg_cmp_gt _ _).mp c_43
          refine lv_aload hx hb dX0_reduce_50 (lv_at hl 0 rfl) ?_
          refine lv_lload_n hx hb dX0_reduce_52 rfl (lv_at hl 3 rfl) ?_
          refine va_callv (va_runV (As := [.long ct]) (rest := []) ⟨hx, hb, hml, hown, hts⟩ (k_shrinkBy l D dA sa lo al σ μ i_2 hbi_2 p hpp hp4 hpg ct) (cwV 1 hts (gdV w_2_193 w_2_194 w_2_195 w_1_2 w_2_196) rfl rfl rfl (by decide +kernel) ⟨Nat.le_of_ble_eq_true rfl, Nat.le_of_ble_eq_true rfl⟩) ⟨iv_bl, sx_recv hK (c4_at hI hbi_2) rfl, fun U hU hW => ⟨rfl, iv_use hI hwd hS hU hW⟩⟩ rfl rfl hl.1 rfl (lv_room (Nat.le_of_ble_eq_true rfl)) dX0_reduce_53 ⟨Nat.le_of_ble_eq_true rfl, Nat.le_of_ble_eq_true rfl⟩) hS (fun q _ h => h) (fun q h => h) (fun u9 T9 H1 locs ht9 hvm9 e_53 hB9 hz9 hk9 hS => ?_)
          have hI := iv_take ht9 hB9
          clear hB9 hk9
          obtain rfl := e_53
          have hbs : i_2 < nR (rShr σ i_2 p ct) := by rw [rShr_N]; exact hbi_2
          obtain ⟨p2, hp24, hpp2⟩ := rShr_p (P := 4) p σ ct hp4 ⟨p, hp4, hpp⟩
          refine lv_aload hx hb dX0_reduce_56 (lv_at hl 0 rfl) ?_
          refine vp_callSl (W.runV (As := []) (rest := []) ⟨hx, hb, hml, hown, hts⟩ (k_covered l D dA sa lo al (rShr σ i_2 p ct) μ i_2 hbs p2 hpp2 hp24) (cwV 0 hts (gdV w_2_189 w_2_190 w_2_191 w_1_2 w_2_192) rfl rfl rfl (by decide +kernel) ⟨Nat.le_of_ble_eq_true rfl, Nat.le_of_ble_eq_true rfl⟩) ⟨iv_bl, sx_recv hK (c4_at hI hbs) rfl, fun U hU hW => ⟨rfl, iv_use hI hwd hS hU hW⟩⟩ rfl rfl hl.1 rfl (lv_room (Nat.le_of_ble_eq_true rfl)) dX0_reduce_58 ⟨Nat.le_of_ble_eq_true rfl, Nat.le_of_ble_eq_true rfl⟩) (fun r_58 e_58 => ?_)
          subst e_58
          refine W.widen (k := 1) (n := 6) (Nat.le_of_ble_eq_true rfl) (Nat.le_of_ble_eq_true rfl) ?_
          exact vx_ret (W.lret (v := sumL (fL (rShr σ i_2 p ct) 6 i_2) p2) hx hb hr (fun t ht hW => ⟨⟨sumL (fL (rShr σ i_2 p ct) 6 i_2) p2, rShr σ i_2 p ct, rfl, (by unfold cReduce; rw [hix]; simp only [if_pos c_15, if_pos c_33, if_pos (show ct < rCov σ i_2 by rw [hrc9]; exact c_43)]; rw [hpn]; unfold rCov; rw [pN_of hpp2 hp24]), iv_give ht hI⟩, hS.F ht⟩) hS.2.2 dX0_reduce_61)
        · have c_43 : ¬ ct < (sumL (fL σ 6 i_2) p) := fun h => c_43 ((lg_cmp_gt _ _).mpr h)
          refine lv_ldc2 (v := (-1)) hx hb hown (hts _ w_1_166) dX0_reduce_46 ?_
          refine W.widen (k := 1) (n := 6) (Nat.le_of_ble_eq_true rfl) (Nat.le_of_ble_eq_true rfl) ?_
          exact vx_ret (W.lret (v := (-1)) hx hb hr (fun t ht hW => ⟨⟨(-1), σ, rfl, (by unfold cReduce; rw [hix]; simp only [if_pos c_15, if_pos c_33, if_neg (show ¬ ct < rCov σ i_2 by rw [hrc9]; exact c_43)]), iv_give ht hI⟩, hS.F ht⟩) hS.2.2 dX0_reduce_49)
    · have c_15 : ¬ 1 ≤ ct := fun h => c_15 ((lg_cmp_ge _ _).mpr h)
      exact vx_throwS (names := xnames) (text := "no such reservation or cents") (sa := sa 133) hx hb hlt hown xIAE_fit xn_fit (hts _ w_1_191) (hts _ w_1_7) (wd_s hwd (133, "no such reservation or cents") (List.mem_of_getElem? (i := 5) rfl)) (xIAE_hat hts (wd_n hwd)) xIAE_ot (wd_u hwd) (wd_v hwd) hS (hl.1.trans hml.symm) dX0_reduce_18 dX0_reduce_21 dX0_reduce_22 dX0_reduce_24 dX0_reduce_27 (fun x h => (hnoh x h).elim) (Nat.le_of_ble_eq_true rfl) (Nat.le_of_ble_eq_true rfl) (Nat.le_of_ble_eq_true rfl) (Nat.le_of_ble_eq_true rfl) hlocks (fun t ha9 hz9 hq9 => ⟨_, rfl, ⟨⟨rfl, (by unfold cReduce; rw [hix]; simp only [if_neg c_15])⟩, iv_kept hI hq9⟩, ⟨hz9, fun q h1 h2 => hq9 q h1⟩⟩) (fun z h => by cases h) (Nat.le_of_ble_eq_true rfl) (Nat.le_of_ble_eq_true rfl)
  · have hix := gIx_none hxi_2
    refine W.eq (g2 := F0 m 5 ls (.null :: [])) rfl ?_
    refine lv_astoreN (lv' := [(4, .null), (0, .ref (al 0 0)), (1, .int x), (2, .long ct)]) hx hb dX0_reduce_5 hl (by decide) rfl (fun ls hl => ?_)
    refine lv_aloadN hx hb dX0_reduce_7 (lv_at hl 0 rfl) ?_
    refine lv_ifnullN (tgt := 18) hx hb dX0_reduce_9 (by decide) ?_
    exact vx_throwS (names := xnames) (text := "no such reservation or cents") (sa := sa 133) hx hb hlt hown xIAE_fit xn_fit (hts _ w_1_191) (hts _ w_1_7) (wd_s hwd (133, "no such reservation or cents") (List.mem_of_getElem? (i := 5) rfl)) (xIAE_hat hts (wd_n hwd)) xIAE_ot (wd_u hwd) (wd_v hwd) hS (hl.1.trans hml.symm) dX0_reduce_18 dX0_reduce_21 dX0_reduce_22 dX0_reduce_24 dX0_reduce_27 (fun x h => (hnoh x h).elim) (Nat.le_of_ble_eq_true rfl) (Nat.le_of_ble_eq_true rfl) (Nat.le_of_ble_eq_true rfl) (Nat.le_of_ble_eq_true rfl) hlocks (fun t ha9 hz9 hq9 => ⟨_, rfl, ⟨⟨rfl, (by unfold cReduce; rw [hix])⟩, iv_kept hI hq9⟩, ⟨hz9, fun q h1 h2 => hq9 q h1⟩⟩) (fun z h => by cases h) (Nat.le_of_ble_eq_true rfl) (Nat.le_of_ble_eq_true rfl)

set_option maxHeartbeats 4000000 in
set_option maxRecDepth 100000 in
theorem t_claim (l : Launch) (D : va_G) (dA : Nat → ClassId) (sa : Nat → Nat) (lo : Nat) (al : Nat → Nat → Nat) (σ μ : CS) (hlt : l.stackTraces = false) (x : Int32) (ct : Int64) (n r : Nat) (hw : WFc σ n r) : vx_Met l yX0_claim wsX0_claim ({ frames := 6, cells := 1, slots := 6, locals := 160 }) (va_Pc [.ref (al 0 0), .int x, .long ct] (ivP D dA sa lo al σ μ)) (va_Ql (fun z9 (u : CS) => cClaim σ r x ct = (0, z9, u)) (ivB D dA lo al μ) (fun q => lo ≤ q)) (vx_X (fun u : CS => u = σ) (fun E u t => ((E = "java/lang/IllegalArgumentException" ∧ (cClaim σ r x ct).1 = 1)) ∧ ivB D dA lo al μ u t) (fun q => lo ≤ q)) 1 6 (fun q => lo ≤ q) := by
  refine vx_ofW (cc := cX0_claim) (maxL := 7) (ret := some .long) (by decide) rfl ?_
  intro p e s m args below meth c s₁ B hml hnoh hv
  obtain ⟨rfl, hI, hwd⟩ := hv
  have hx := B.exec
  have hb := B.bytes
  have hr := B.returns
  have hts : ∀ w ∈ WSall, w.before _ s = true := fun w h => atoms_spec (ws := wsX0_claim) B.pre w (List.mem_cons_of_mem _ h)
  have hown : s.vm.findClass RX0 = some m.cls := findClass_of_methodNamed B.named
  have hlocks := B.notSynchronized
  have hK := hwd.1
  have hS : va_S (fun q => lo ≤ q) s.heap s.heap [] := va_S.rf
  have hl := lv_entry ([.ref (al 0 0), .int x, .long ct]) (n := 7) (Nat.le_of_ble_eq_true rfl)
  rw [lg_entry_eq]
  generalize (lg_sl ([.ref (al 0 0), .int x, .long ct]) ++ List.replicate (7 - (lg_sl ([.ref (al 0 0), .int x, .long ct])).length) Slot.unset).toArray = ls at hl ⊢
  have hl : lv_has ls 7 [(0, .ref (al 0 0)), (1, .int x), (2, .long ct)] := hl
  obtain ⟨hnG, hnR, hn20, hr60, hgc, hrc, hdr, hgs, hrs, hho, hpa⟩ := id hw
  refine lv_aload_n hx hb dX0_claim_0 rfl (lv_at hl 0 rfl) ?_
  refine lv_iload_n hx hb dX0_claim_1 rfl (lv_at hl 1 rfl) ?_
  refine va_csq (W.runV (As := [.int x]) (rest := []) ⟨hx, hb, hml, hown, hts⟩ (k_reservationNumbered l D dA sa lo al σ μ x r hrc hr60 hrs) (cwV 1 hts (gdV w_2_168 w_2_170 wp_8 w_1_1 w_2_171) rfl rfl rfl (by decide +kernel) ⟨Nat.le_of_ble_eq_true rfl, Nat.le_of_ble_eq_true rfl⟩) ⟨iv_bl, sx_recv hK (c0_at hI) rfl, fun U hU hW => ⟨rfl, iv_use hI hwd hS hU hW⟩⟩ rfl rfl hl.1 rfl (lv_room (Nat.le_of_ble_eq_true rfl)) dX0_claim_2 ⟨Nat.le_of_ble_eq_true rfl, Nat.le_of_ble_eq_true rfl⟩) (fun r_2 e_2 => ?_)
  rcases e_2 with ⟨i_2, hi_2, hxi_2, rfl⟩ | ⟨hxi_2, rfl⟩
  · have hix := gIx_some hi_2 (by omega) hxi_2
    have hbi_2 : i_2 < nR σ := (by rw [hnR]; omega)
    refine W.eq (g2 := F0 m 5 ls (.ref (al 4 i_2) :: [])) rfl ?_
    refine lv_astore (lv' := [(4, .ref (al 4 i_2)), (0, .ref (al 0 0)), (1, .int x), (2, .long ct)]) hx hb dX0_claim_5 hl (by decide) rfl (fun ls hl => ?_)
    refine lv_aload hx hb dX0_claim_7 (lv_at hl 0 rfl) ?_
    refine lv_ifnull hx hb dX0_claim_9 ?_
    refine lv_lload_n hx hb dX0_claim_12 rfl (lv_at hl 3 rfl) ?_
    refine lv_lconst (v := 1) hx hb dX0_claim_13 (by decide) ?_
    refine W.lcmp hx hb dX0_claim_14 ?_
    refine lv_if_ge (tgt := 28) hx hb dX0_claim_15 (by decide) (fun c_15 => ?_) (fun c_15 => ?_)
    · have c_15 : 1 ≤ ct := (lg_cmp_ge _ _).mp c_15
      obtain ⟨p, hp4, hpp, hpg⟩ := hpa i_2 (by omega)
      have hpg : ∀ k, k < p → ∃ g, fR σ 5 i_2 k = some g ∧ g < nG σ := by rw [hnG]; exact hpg
      have hpn : pN σ i_2 = p := pN_of hpp hp4
      have hrc9 : rCov σ i_2 = sumL (fL σ 6 i_2) p := by unfold rCov; rw [hpn]
      refine lv_aload hx hb dX0_claim_28 (lv_at hl 0 rfl) ?_
      refine sx_getN (ci := 4) (C := RX4) (T := TX4) (N := 6) (v := .int (fI σ 4 i_2 5)) hx hb hts inX4 hown hK (c4_at hI hbi_2) rfl 5 (by decide) (va_Nw.use rfl (wd_n hwd (.fieldLinkNest "GuaranteeBook" 123 "GuaranteeBook$Reservation" "state" "I" "GuaranteeBook") (List.mem_of_getElem? (i := 5) rfl))) rfl rfl dX0_claim_30 ?_
      refine lv_if_ne (tgt := 46) hx hb dX0_claim_33 (by decide) (fun c_33 => ?_) (fun c_33 => ?_)
      · refine lv_ldc2 (v := (-1)) hx hb hown (hts _ w_1_166) dX0_claim_46 ?_
        refine W.widen (k := 1) (n := 6) (Nat.le_of_ble_eq_true rfl) (Nat.le_of_ble_eq_true rfl) ?_
        exact vx_ret (W.lret (v := (-1)) hx hb hr (fun t ht hW => ⟨⟨(-1), σ, rfl, (by unfold cClaim; rw [hix]; simp only [if_pos c_15, if_neg c_33]), iv_give ht hI⟩, hS.F ht⟩) hS.2.2 dX0_claim_49)
      · refine lv_aload hx hb dX0_claim_36 (lv_at hl 0 rfl) ?_
        refine vp_callSl (W.runV (As := []) (rest := []) ⟨hx, hb, hml, hown, hts⟩ (k_covered l D dA sa lo al σ μ i_2 hbi_2 p hpp hp4) (cwV 0 hts (gdV w_2_189 w_2_190 w_2_191 w_1_2 w_2_192) rfl rfl rfl (by decide +kernel) ⟨Nat.le_of_ble_eq_true rfl, Nat.le_of_ble_eq_true rfl⟩) ⟨iv_bl, sx_recv hK (c4_at hI hbi_2) rfl, fun U hU hW => ⟨rfl, iv_use hI hwd hS hU hW⟩⟩ rfl rfl hl.1 rfl (lv_room (Nat.le_of_ble_eq_true rfl)) dX0_claim_38 ⟨Nat.le_of_ble_eq_true rfl, Nat.le_of_ble_eq_true rfl⟩) (fun r_38 e_38 => ?_)
        subst e_38
        refine lv_lload_n hx hb dX0_claim_41 rfl (lv_at hl 3 rfl) ?_
        refine W.lcmp hx hb dX0_claim_42 ?_
        refine lv_if_ge (tgt := 50) hx hb dX0_claim_43 (by decide) (fun c_43 => ?_) (fun c_43 => ?_)
        · have c_43 : ct ≤ (sumL (fL σ 6 i_2) p) := (lg_cmp_ge _ _).mp c_43
          refine lv_aload hx hb dX0_claim_50 (lv_at hl 0 rfl) ?_
          refine lv_lload_n hx hb dX0_claim_52 rfl (lv_at hl 3 rfl) ?_
          refine lv_aload_n hx hb dX0_claim_53 rfl (lv_at hl 1 rfl) ?_
          refine sx_get (ci := 0) (C := RX0) (T := TX0) (N := 10) (v := .int (fI σ 0 0 9)) hx hb hts inX0 hown hK (c0_at hI) rfl 9 (by decide) (hts _ w_1_68) rfl rfl dX0_claim_54 ?_
          refine va_calll (va_runV (As := [.long ct, .int (fI σ 0 0 9)]) (rest := []) ⟨hx, hb, hml, hown, hts⟩ (k_take l D dA sa lo al σ μ i_2 hbi_2 p hpp hp4 hpg ct (fI σ 0 0 9)) (cwV 2 hts (gdV w_2_205 w_2_206 w_2_207 w_1_2 w_2_208) rfl rfl rfl (by decide +kernel) ⟨Nat.le_of_ble_eq_true rfl, Nat.le_of_ble_eq_true rfl⟩) ⟨iv_bl, sx_recv hK (c4_at hI hbi_2) rfl, fun U hU hW => ⟨rfl, iv_use hI hwd hS hU hW⟩⟩ rfl rfl hl.1 rfl (lv_room (Nat.le_of_ble_eq_true rfl)) dX0_claim_57 ⟨Nat.le_of_ble_eq_true rfl, Nat.le_of_ble_eq_true rfl⟩) hS (fun q _ h => h) (fun q h => h) (fun r_57 u9 T9 H1 locs ht9 hvm9 e_57 hB9 hz9 hk9 hS => ?_)
          have hI := iv_take ht9 hB9
          clear hB9 hk9
          obtain ⟨rfl, rfl⟩ := e_57
          have hbt : i_2 < nR (rTk σ i_2 (fI σ 0 0 9) ct p).1 := by rw [rTk_N]; exact hbi_2
          refine lv_lstore (lv' := [(5, .long (rTk σ i_2 (fI σ 0 0 9) ct p).2.2), (4, .ref (al 4 i_2)), (0, .ref (al 0 0)), (1, .int x), (2, .long ct)]) hx hb dX0_claim_60 hl (by decide) rfl (fun ls hl => ?_)
          refine lv_aload hx hb dX0_claim_62 (lv_at hl 1 rfl) ?_
          refine va_callv (va_runV (As := []) (rest := []) ⟨hx, hb, hml, hown, hts⟩ (k_dropParts l D dA sa lo al (rTk σ i_2 (fI σ 0 0 9) ct p).1 μ i_2 hbt p (by rw [rTk_I (by decide) (by decide)]; exact hpp) hp4 (by rw [rTk_R, rTk_G]; exact hpg)) (cwV 0 hts (gdV w_2_173 w_2_174 w_2_175 w_1_2 w_2_176) rfl rfl rfl (by decide +kernel) ⟨Nat.le_of_ble_eq_true rfl, Nat.le_of_ble_eq_true rfl⟩) ⟨iv_bl, sx_recv hK (c4_at hI hbt) rfl, fun U hU hW => ⟨rfl, iv_use hI hwd hS hU hW⟩⟩ rfl rfl hl.1 rfl (lv_room (Nat.le_of_ble_eq_true rfl)) dX0_claim_64 ⟨Nat.le_of_ble_eq_true rfl, Nat.le_of_ble_eq_true rfl⟩) hS (fun q _ h => h) (fun q h => h) (fun u9 T9 H1 locs ht9 hvm9 e_64 hB9 hz9 hk9 hS => ?_)
          have hI := iv_take ht9 hB9
          clear hB9 hk9
          obtain rfl := e_64
          have hbd : i_2 < nR (uI (rDrop (rTk σ i_2 (fI σ 0 0 9) ct p).1 i_2 p) 4 i_2 2 0) := by rw [nR_uI, rDrop_N]; exact hbt
          refine lv_aload_n hx hb dX0_claim_67 rfl (lv_at hl 2 rfl) ?_
          refine lv_aload hx hb dX0_claim_68 (lv_at hl 1 rfl) ?_
          refine lv_iconst (v := 3) hx hb dX0_claim_70 (by decide) ?_
          refine va_callv (va_runV (As := [.ref (al 4 i_2), .int 3]) (rest := []) ⟨hx, hb, hml, hown, hts⟩ (k_finish l D dA sa lo al (uI (rDrop (rTk σ i_2 (fI σ 0 0 9) ct p).1 i_2 p) 4 i_2 2 0) μ i_2 hbd 3) (cwV 2 hts (gdV w_2_177 w_2_179 wp_9 w_1_1 w_2_180) rfl rfl rfl (by decide +kernel) ⟨Nat.le_of_ble_eq_true rfl, Nat.le_of_ble_eq_true rfl⟩) ⟨iv_bl, sx_recv hK (c0_at hI) rfl, fun U hU hW => ⟨rfl, iv_use hI hwd hS hU hW⟩⟩ rfl rfl hl.1 rfl (lv_room (Nat.le_of_ble_eq_true rfl)) dX0_claim_71 ⟨Nat.le_of_ble_eq_true rfl, Nat.le_of_ble_eq_true rfl⟩) hS (fun q _ h => h) (fun q h => h) (fun u9 T9 H1 locs ht9 hvm9 e_71 hB9 hz9 hk9 hS => ?_)
          have hI := iv_take ht9 hB9
          clear hB9 hk9
          obtain rfl := e_71
          refine lv_lload hx hb dX0_claim_74 (lv_at hl 0 rfl) ?_
          refine W.widen (k := 1) (n := 6) (Nat.le_of_ble_eq_true rfl) (Nat.le_of_ble_eq_true rfl) ?_
          exact vx_ret (W.lret (v := (rTk σ i_2 (fI σ 0 0 9) ct p).2.2) hx hb hr (fun t ht hW => ⟨⟨(rTk σ i_2 (fI σ 0 0 9) ct p).2.2, rFin (uI (rDrop (rTk σ i_2 (fI σ 0 0 9) ct p).1 i_2 p) 4 i_2 2 0) i_2 3, rfl, (by unfold cClaim; rw [hix]; simp only [if_pos c_15, if_pos c_33, if_pos (show ct ≤ rCov σ i_2 by rw [hrc9]; exact c_43)]; unfold rGo; rw [hpn, pN_of (p := p) (by rw [rTk_I (by decide) (by decide)]; exact hpp) hp4]), iv_give ht hI⟩, hS.F ht⟩) hS.2.2 dX0_claim_76)
        · have c_43 : ¬ ct ≤ (sumL (fL σ 6 i_2) p) := fun h => c_43 ((lg_cmp_ge _ _).mpr h)
          refine lv_ldc2 (v := (-1)) hx hb hown (hts _ w_1_166) dX0_claim_46 ?_
          refine W.widen (k := 1) (n := 6) (Nat.le_of_ble_eq_true rfl) (Nat.le_of_ble_eq_true rfl) ?_
          exact vx_ret (W.lret (v := (-1)) hx hb hr (fun t ht hW => ⟨⟨(-1), σ, rfl, (by unfold cClaim; rw [hix]; simp only [if_pos c_15, if_pos c_33, if_neg (show ¬ ct ≤ rCov σ i_2 by rw [hrc9]; exact c_43)]), iv_give ht hI⟩, hS.F ht⟩) hS.2.2 dX0_claim_49)
    · have c_15 : ¬ 1 ≤ ct := fun h => c_15 ((lg_cmp_ge _ _).mpr h)
      exact vx_throwS (names := xnames) (text := "no such reservation or cents") (sa := sa 133) hx hb hlt hown xIAE_fit xn_fit (hts _ w_1_191) (hts _ w_1_7) (wd_s hwd (133, "no such reservation or cents") (List.mem_of_getElem? (i := 5) rfl)) (xIAE_hat hts (wd_n hwd)) xIAE_ot (wd_u hwd) (wd_v hwd) hS (hl.1.trans hml.symm) dX0_claim_18 dX0_claim_21 dX0_claim_22 dX0_claim_24 dX0_claim_27 (fun x h => (hnoh x h).elim) (Nat.le_of_ble_eq_true rfl) (Nat.le_of_ble_eq_true rfl) (Nat.le_of_ble_eq_true rfl) (Nat.le_of_ble_eq_true rfl) hlocks (fun t ha9 hz9 hq9 => ⟨_, rfl, ⟨⟨rfl, (by unfold cClaim; rw [hix]; simp only [if_neg c_15])⟩, iv_kept hI hq9⟩, ⟨hz9, fun q h1 h2 => hq9 q h1⟩⟩) (fun z h => by cases h) (Nat.le_of_ble_eq_true rfl) (Nat.le_of_ble_eq_true rfl)
  · have hix := gIx_none hxi_2
    refine W.eq (g2 := F0 m 5 ls (.null :: [])) rfl ?_
    refine lv_astoreN (lv' := [(4, .null), (0, .ref (al 0 0)), (1, .int x), (2, .long ct)]) hx hb dX0_claim_5 hl (by decide) rfl (fun ls hl => ?_)
    refine lv_aloadN hx hb dX0_claim_7 (lv_at hl 0 rfl) ?_
    refine lv_ifnullN (tgt := 18) hx hb dX0_claim_9 (by decide) ?_
    exact vx_throwS (names := xnames) (text := "no such reservation or cents") (sa := sa 133) hx hb hlt hown xIAE_fit xn_fit (hts _ w_1_191) (hts _ w_1_7) (wd_s hwd (133, "no such reservation or cents") (List.mem_of_getElem? (i := 5) rfl)) (xIAE_hat hts (wd_n hwd)) xIAE_ot (wd_u hwd) (wd_v hwd) hS (hl.1.trans hml.symm) dX0_claim_18 dX0_claim_21 dX0_claim_22 dX0_claim_24 dX0_claim_27 (fun x h => (hnoh x h).elim) (Nat.le_of_ble_eq_true rfl) (Nat.le_of_ble_eq_true rfl) (Nat.le_of_ble_eq_true rfl) (Nat.le_of_ble_eq_true rfl) hlocks (fun t ha9 hz9 hq9 => ⟨_, rfl, ⟨⟨rfl, (by unfold cClaim; rw [hix])⟩, iv_kept hI hq9⟩, ⟨hz9, fun q h1 h2 => hq9 q h1⟩⟩) (fun z h => by cases h) (Nat.le_of_ble_eq_true rfl) (Nat.le_of_ble_eq_true rfl)

set_option maxHeartbeats 4000000 in
set_option maxRecDepth 100000 in
theorem t_of (l : Launch) (D : va_G) (dA : Nat → ClassId) (sa : Nat → Nat) (lo : Nat) (al : Nat → Nat → Nat) (σ μ : CS) (hlt : l.stackTraces = false) (x w : Int32) (n r : Nat) (hw : WFc σ n r) : vx_Met l yX0_of wsX0_of ({ frames := 6, cells := 1, slots := 6, locals := 160 }) (va_Pc [.ref (al 0 0), .int x, .int w] (ivP D dA sa lo al σ μ)) (va_Ql (fun z9 (u : CS) => cOf σ r x w = (0, z9, u)) (ivB D dA lo al μ) (fun q => lo ≤ q)) (vx_X (fun u : CS => u = σ) (fun E u t => ((E = "java/lang/IndexOutOfBoundsException" ∧ (cOf σ r x w).1 = 1)) ∧ ivB D dA lo al μ u t) (fun q => lo ≤ q)) 1 6 (fun q => lo ≤ q) := by
  refine vx_ofW (cc := cX0_of) (maxL := 4) (ret := some .long) (by decide) rfl ?_
  intro p e s m args below meth c s₁ B hml hnoh hv
  obtain ⟨rfl, hI, hwd⟩ := hv
  have hx := B.exec
  have hb := B.bytes
  have hr := B.returns
  have hts : ∀ w ∈ WSall, w.before _ s = true := fun w h => atoms_spec (ws := wsX0_of) B.pre w (List.mem_cons_of_mem _ h)
  have hown : s.vm.findClass RX0 = some m.cls := findClass_of_methodNamed B.named
  have hlocks := B.notSynchronized
  have hK := hwd.1
  have hS : va_S (fun q => lo ≤ q) s.heap s.heap [] := va_S.rf
  have hl := lv_entry ([.ref (al 0 0), .int x, .int w]) (n := 4) (Nat.le_of_ble_eq_true rfl)
  rw [lg_entry_eq]
  generalize (lg_sl ([.ref (al 0 0), .int x, .int w]) ++ List.replicate (4 - (lg_sl ([.ref (al 0 0), .int x, .int w])).length) Slot.unset).toArray = ls at hl ⊢
  have hl : lv_has ls 4 [(0, .ref (al 0 0)), (1, .int x), (2, .int w)] := hl
  obtain ⟨hnG, hnR, hn20, hr60, hgc, hrc, hdr, hgs, hrs, hho, hpa⟩ := id hw
  refine lv_aload_n hx hb dX0_of_0 rfl (lv_at hl 0 rfl) ?_
  refine lv_iload_n hx hb dX0_of_1 rfl (lv_at hl 1 rfl) ?_
  refine va_csq (W.runV (As := [.int x]) (rest := []) ⟨hx, hb, hml, hown, hts⟩ (k_reservationNumbered l D dA sa lo al σ μ x r hrc hr60 hrs) (cwV 1 hts (gdV w_2_168 w_2_170 wp_8 w_1_1 w_2_171) rfl rfl rfl (by decide +kernel) ⟨Nat.le_of_ble_eq_true rfl, Nat.le_of_ble_eq_true rfl⟩) ⟨iv_bl, sx_recv hK (c0_at hI) rfl, fun U hU hW => ⟨rfl, iv_use hI hwd hS hU hW⟩⟩ rfl rfl hl.1 rfl (lv_room (Nat.le_of_ble_eq_true rfl)) dX0_of_2 ⟨Nat.le_of_ble_eq_true rfl, Nat.le_of_ble_eq_true rfl⟩) (fun r_2 e_2 => ?_)
  rcases e_2 with ⟨i_2, hi_2, hxi_2, rfl⟩ | ⟨hxi_2, rfl⟩
  · have hix := gIx_some hi_2 (by omega) hxi_2
    have hbi_2 : i_2 < nR σ := (by rw [hnR]; omega)
    refine W.eq (g2 := F0 m 5 ls (.ref (al 4 i_2) :: [])) rfl ?_
    refine lv_astore_n (lv' := [(3, .ref (al 4 i_2)), (0, .ref (al 0 0)), (1, .int x), (2, .int w)]) hx hb dX0_of_5 rfl hl (by decide) rfl (fun ls hl => ?_)
    refine lv_aload_n hx hb dX0_of_6 rfl (lv_at hl 0 rfl) ?_
    refine lv_ifnonnull (tgt := 20) hx hb dX0_of_7 (by decide) ?_
    obtain ⟨p, hp4, hpp, hpg⟩ := hpa i_2 (by omega)
    have hpg : ∀ k, k < p → ∃ g, fR σ 5 i_2 k = some g ∧ g < nG σ := by rw [hnG]; exact hpg
    have hpn : pN σ i_2 = p := pN_of hpp hp4
    refine lv_aload_n hx hb dX0_of_20 rfl (lv_at hl 0 rfl) ?_
    refine lv_iload_n hx hb dX0_of_21 rfl (lv_at hl 3 rfl) ?_
    refine lv_iconst (v := 5) hx hb dX0_of_22 (by decide) ?_
    refine lv_isub hx hb dX0_of_23 ?_
    refine vp_callSi (W.runV (As := [.int (w - 5)]) (rest := []) ⟨hx, hb, hml, hown, hts⟩ (k_hasPart l D dA sa lo al σ μ i_2 hbi_2 (w - 5)) (cwV 1 hts (gdV w_3_21 w_3_22 w_3_23 w_1_2 w_3_24) rfl rfl rfl (by decide +kernel) ⟨Nat.le_of_ble_eq_true rfl, Nat.le_of_ble_eq_true rfl⟩) ⟨iv_bl, sx_recv hK (c4_at hI hbi_2) rfl, fun U hU hW => ⟨rfl, iv_use hI hwd hS hU hW⟩⟩ rfl rfl hl.1 rfl (lv_room (Nat.le_of_ble_eq_true rfl)) dX0_of_24 ⟨Nat.le_of_ble_eq_true rfl, Nat.le_of_ble_eq_true rfl⟩) (fun r_24 e_24 => ?_)
    subst e_24
    refine lv_if_eq (tgt := 39) hx hb dX0_of_27 (by decide) (fun c_27 => ?_) (fun c_27 => ?_)
    · have c_27 := bp_0.mp c_27
      refine lv_aload_n hx hb dX0_of_39 rfl (lv_at hl 0 rfl) ?_
      refine lv_iload_n hx hb dX0_of_40 rfl (lv_at hl 3 rfl) ?_
      refine lv_bipush (v := 9) hx hb dX0_of_41 (by decide) ?_
      refine lv_isub hx hb dX0_of_43 ?_
      refine vp_callSi (W.runV (As := [.int (w - 9)]) (rest := []) ⟨hx, hb, hml, hown, hts⟩ (k_hasPart l D dA sa lo al σ μ i_2 hbi_2 (w - 9)) (cwV 1 hts (gdV w_3_21 w_3_22 w_3_23 w_1_2 w_3_24) rfl rfl rfl (by decide +kernel) ⟨Nat.le_of_ble_eq_true rfl, Nat.le_of_ble_eq_true rfl⟩) ⟨iv_bl, sx_recv hK (c4_at hI hbi_2) rfl, fun U hU hW => ⟨rfl, iv_use hI hwd hS hU hW⟩⟩ rfl rfl hl.1 rfl (lv_room (Nat.le_of_ble_eq_true rfl)) dX0_of_44 ⟨Nat.le_of_ble_eq_true rfl, Nat.le_of_ble_eq_true rfl⟩) (fun r_44 e_44 => ?_)
      subst e_44
      refine lv_if_eq (tgt := 60) hx hb dX0_of_47 (by decide) (fun c_47 => ?_) (fun c_47 => ?_)
      · have c_47 := bp_0.mp c_47
        refine lv_iload_n hx hb dX0_of_60 rfl (lv_at hl 3 rfl) ?_
        by_cases c_61_0 : w = 0
        · refine lv_tableIn (tgt := 96) hx hb dX0_of_61 (by rw [c_61_0]; decide) (by rw [c_61_0]; decide) (by rw [c_61_0]; rfl) (by decide) ?_
          refine lv_aload_n hx hb dX0_of_96 rfl (lv_at hl 0 rfl) ?_
          refine sx_getN (ci := 4) (C := RX4) (T := TX4) (N := 6) (v := .int (fI σ 4 i_2 3)) hx hb hts inX4 hown hK (c4_at hI hbi_2) rfl 3 (by decide) (va_Nw.use rfl (wd_n hwd (.fieldLinkNest "GuaranteeBook" 215 "GuaranteeBook$Reservation" "holder" "I" "GuaranteeBook") (List.mem_of_getElem? (i := 3) rfl))) rfl rfl dX0_of_97 ?_
          refine lv_i2l hx hb dX0_of_100 rfl ?_
          refine W.widen (k := 1) (n := 6) (Nat.le_of_ble_eq_true rfl) (Nat.le_of_ble_eq_true rfl) ?_
          exact vx_ret (W.lret (v := (fI σ 4 i_2 3).toInt64) hx hb hr (fun t ht hW => ⟨⟨(fI σ 4 i_2 3).toInt64, σ, rfl, (by unfold cOf; rw [hix]; simp only [if_neg c_27, if_neg c_47, if_pos c_61_0]), iv_give ht hI⟩, hS.F ht⟩) hS.2.2 dX0_of_101)
        by_cases c_61_1 : w = 1
        · refine lv_tableIn (tgt := 102) hx hb dX0_of_61 (by rw [c_61_1]; decide) (by rw [c_61_1]; decide) (by rw [c_61_1]; rfl) (by decide) ?_
          refine lv_aload_n hx hb dX0_of_102 rfl (lv_at hl 0 rfl) ?_
          refine sx_getN (ci := 4) (C := RX4) (T := TX4) (N := 6) (v := .long (fL σ 4 i_2 4)) hx hb hts inX4 hown hK (c4_at hI hbi_2) rfl 4 (by decide) (va_Nw.use rfl (wd_n hwd (.fieldLinkNest "GuaranteeBook" 216 "GuaranteeBook$Reservation" "debt" "J" "GuaranteeBook") (List.mem_of_getElem? (i := 4) rfl))) rfl rfl dX0_of_103 ?_
          refine W.widen (k := 1) (n := 6) (Nat.le_of_ble_eq_true rfl) (Nat.le_of_ble_eq_true rfl) ?_
          exact vx_ret (W.lret (v := fL σ 4 i_2 4) hx hb hr (fun t ht hW => ⟨⟨fL σ 4 i_2 4, σ, rfl, (by unfold cOf; rw [hix]; simp only [if_neg c_27, if_neg c_47, if_neg c_61_0, if_pos c_61_1]), iv_give ht hI⟩, hS.F ht⟩) hS.2.2 dX0_of_106)
        by_cases c_61_2 : w = 2
        · refine lv_tableIn (tgt := 107) hx hb dX0_of_61 (by rw [c_61_2]; decide) (by rw [c_61_2]; decide) (by rw [c_61_2]; rfl) (by decide) ?_
          refine lv_aload_n hx hb dX0_of_107 rfl (lv_at hl 0 rfl) ?_
          refine vp_callSl (W.runV (As := []) (rest := []) ⟨hx, hb, hml, hown, hts⟩ (k_covered l D dA sa lo al σ μ i_2 hbi_2 p hpp hp4) (cwV 0 hts (gdV w_2_189 w_2_190 w_2_191 w_1_2 w_2_192) rfl rfl rfl (by decide +kernel) ⟨Nat.le_of_ble_eq_true rfl, Nat.le_of_ble_eq_true rfl⟩) ⟨iv_bl, sx_recv hK (c4_at hI hbi_2) rfl, fun U hU hW => ⟨rfl, iv_use hI hwd hS hU hW⟩⟩ rfl rfl hl.1 rfl (lv_room (Nat.le_of_ble_eq_true rfl)) dX0_of_108 ⟨Nat.le_of_ble_eq_true rfl, Nat.le_of_ble_eq_true rfl⟩) (fun r_108 e_108 => ?_)
          subst e_108
          refine W.widen (k := 1) (n := 6) (Nat.le_of_ble_eq_true rfl) (Nat.le_of_ble_eq_true rfl) ?_
          exact vx_ret (W.lret (v := sumL (fL σ 6 i_2) p) hx hb hr (fun t ht hW => ⟨⟨sumL (fL σ 6 i_2) p, σ, rfl, (by unfold cOf; rw [hix]; simp only [if_neg c_27, if_neg c_47, if_neg c_61_0, if_neg c_61_1, if_pos c_61_2]; unfold rCov; rw [hpn]), iv_give ht hI⟩, hS.F ht⟩) hS.2.2 dX0_of_111)
        by_cases c_61_3 : w = 3
        · refine lv_tableIn (tgt := 112) hx hb dX0_of_61 (by rw [c_61_3]; decide) (by rw [c_61_3]; decide) (by rw [c_61_3]; rfl) (by decide) ?_
          refine lv_aload_n hx hb dX0_of_112 rfl (lv_at hl 0 rfl) ?_
          refine sx_getN (ci := 4) (C := RX4) (T := TX4) (N := 6) (v := .int (fI σ 4 i_2 5)) hx hb hts inX4 hown hK (c4_at hI hbi_2) rfl 5 (by decide) (va_Nw.use rfl (wd_n hwd (.fieldLinkNest "GuaranteeBook" 123 "GuaranteeBook$Reservation" "state" "I" "GuaranteeBook") (List.mem_of_getElem? (i := 5) rfl))) rfl rfl dX0_of_113 ?_
          refine lv_i2l hx hb dX0_of_116 rfl ?_
          refine W.widen (k := 1) (n := 6) (Nat.le_of_ble_eq_true rfl) (Nat.le_of_ble_eq_true rfl) ?_
          exact vx_ret (W.lret (v := (fI σ 4 i_2 5).toInt64) hx hb hr (fun t ht hW => ⟨⟨(fI σ 4 i_2 5).toInt64, σ, rfl, (by unfold cOf; rw [hix]; simp only [if_neg c_27, if_neg c_47, if_neg c_61_0, if_neg c_61_1, if_neg c_61_2, if_pos c_61_3]), iv_give ht hI⟩, hS.F ht⟩) hS.2.2 dX0_of_117)
        by_cases c_61_4 : w = 4
        · refine lv_tableIn (tgt := 118) hx hb dX0_of_61 (by rw [c_61_4]; decide) (by rw [c_61_4]; decide) (by rw [c_61_4]; rfl) (by decide) ?_
          refine lv_aload_n hx hb dX0_of_118 rfl (lv_at hl 0 rfl) ?_
          refine sx_getN (ci := 4) (C := RX4) (T := TX4) (N := 6) (v := .int (fI σ 4 i_2 2)) hx hb hts inX4 hown hK (c4_at hI hbi_2) rfl 2 (by decide) (va_Nw.use rfl (wd_n hwd (.fieldLinkNest "GuaranteeBook" 219 "GuaranteeBook$Reservation" "parts" "I" "GuaranteeBook") (List.mem_of_getElem? (i := 2) rfl))) rfl rfl dX0_of_119 ?_
          refine lv_i2l hx hb dX0_of_122 rfl ?_
          refine W.widen (k := 1) (n := 6) (Nat.le_of_ble_eq_true rfl) (Nat.le_of_ble_eq_true rfl) ?_
          exact vx_ret (W.lret (v := (fI σ 4 i_2 2).toInt64) hx hb hr (fun t ht hW => ⟨⟨(fI σ 4 i_2 2).toInt64, σ, rfl, (by unfold cOf; rw [hix]; simp only [if_neg c_27, if_neg c_47, if_neg c_61_0, if_neg c_61_1, if_neg c_61_2, if_neg c_61_3, if_pos c_61_4]), iv_give ht hI⟩, hS.F ht⟩) hS.2.2 dX0_of_123)
        refine lv_tableOut (tgt := 124) hx hb dX0_of_61 (sw_out4 c_61_0 c_61_1 c_61_2 c_61_3 c_61_4) (by decide) ?_
        exact vx_throwS (names := xnames) (text := "no such what or part of a reservation") (sa := sa 222) hx hb hlt hown xIOB_fit xn_fit (hts _ w_2_232) (hts _ w_1_13) (wd_s hwd (222, "no such what or part of a reservation") (List.mem_of_getElem? (i := 9) rfl)) (xIOB_hat hts (wd_n hwd)) xIOB_ot (wd_u hwd) (wd_v hwd) hS (hl.1.trans hml.symm) dX0_of_124 dX0_of_127 dX0_of_128 dX0_of_130 dX0_of_133 (fun x h => (hnoh x h).elim) (Nat.le_of_ble_eq_true rfl) (Nat.le_of_ble_eq_true rfl) (Nat.le_of_ble_eq_true rfl) (Nat.le_of_ble_eq_true rfl) hlocks (fun t ha9 hz9 hq9 => ⟨_, rfl, ⟨⟨rfl, (by unfold cOf; rw [hix]; simp only [if_neg c_27, if_neg c_47, if_neg c_61_0, if_neg c_61_1, if_neg c_61_2, if_neg c_61_3, if_neg c_61_4])⟩, iv_kept hI hq9⟩, ⟨hz9, fun q h1 h2 => hq9 q h1⟩⟩) (fun z h => by cases h) (Nat.le_of_ble_eq_true rfl) (Nat.le_of_ble_eq_true rfl)
      · have c_47 := bp_n0.mp c_47
        obtain ⟨k, hkp, hwk⟩ := has_in c_47 hpp hp4
        have hin : vp_in (w - 9) 4 := by rw [hwk]; exact vp_in_nI (by omega) (by decide)
        refine lv_aload_n hx hb dX0_of_50 rfl (lv_at hl 0 rfl) ?_
        refine sx_getN (ci := 4) (C := RX4) (T := TX4) (N := 6) (v := .ref (al 6 i_2)) hx hb hts inX4 hown hK (c4_at hI hbi_2) rfl 1 (by decide) (va_Nw.use rfl (wd_n hwd (.fieldLinkNest "GuaranteeBook" 211 "GuaranteeBook$Reservation" "covers" "[J" "GuaranteeBook") (List.mem_of_getElem? (i := 1) rfl))) rfl rfl dX0_of_51 ?_
        refine lv_iload_n hx hb dX0_of_54 rfl (lv_at hl 3 rfl) ?_
        refine lv_bipush (v := 9) hx hb dX0_of_55 (by decide) ?_
        refine lv_isub hx hb dX0_of_57 ?_
        refine sx_lald hx hb hK (c6_at hI hbi_2) 1 rfl hin dX0_of_58 ?_
        refine W.widen (k := 1) (n := 6) (Nat.le_of_ble_eq_true rfl) (Nat.le_of_ble_eq_true rfl) ?_
        exact vx_ret (W.lret (v := fL σ 6 i_2 (w - 9).toNatClampNeg) hx hb hr (fun t ht hW => ⟨⟨fL σ 6 i_2 (w - 9).toNatClampNeg, σ, rfl, (by unfold cOf; rw [hix]; simp only [if_neg c_27, if_pos c_47]), iv_give ht hI⟩, hS.F ht⟩) hS.2.2 dX0_of_59)
    · have c_27 := bp_n0.mp c_27
      obtain ⟨k, hkp, hwk⟩ := has_in c_27 hpp hp4
      obtain ⟨g, hg, hgn⟩ := hpg k hkp
      refine lv_aload_n hx hb dX0_of_30 rfl (lv_at hl 0 rfl) ?_
      refine lv_iload_n hx hb dX0_of_31 rfl (lv_at hl 3 rfl) ?_
      refine lv_iconst (v := 5) hx hb dX0_of_32 (by decide) ?_
      refine lv_isub hx hb dX0_of_33 ?_
      refine W.eq (g2 := F0 m 34 ls (.int (nI k) :: [.ref (al 4 i_2)])) (by rw [hwk]) ?_
      refine vp_callSi (W.runV (As := [.int (nI k)]) (rest := []) ⟨hx, hb, hml, hown, hts⟩ (k_numberOfPart l D dA sa lo al σ μ i_2 hbi_2 k g (by omega) hg hgn) (cwV 1 hts (gdV w_3_25 w_3_26 w_3_27 w_1_2 w_3_28) rfl rfl rfl (by decide +kernel) ⟨Nat.le_of_ble_eq_true rfl, Nat.le_of_ble_eq_true rfl⟩) ⟨iv_bl, sx_recv hK (c4_at hI hbi_2) rfl, fun U hU hW => ⟨rfl, iv_use hI hwd hS hU hW⟩⟩ rfl rfl hl.1 rfl (lv_room (Nat.le_of_ble_eq_true rfl)) dX0_of_34 ⟨Nat.le_of_ble_eq_true rfl, Nat.le_of_ble_eq_true rfl⟩) (fun r_34 e_34 => ?_)
      subst e_34
      refine lv_i2l hx hb dX0_of_37 rfl ?_
      refine W.widen (k := 1) (n := 6) (Nat.le_of_ble_eq_true rfl) (Nat.le_of_ble_eq_true rfl) ?_
      exact vx_ret (W.lret (v := (fI σ 1 g 0).toInt64) hx hb hr (fun t ht hW => ⟨⟨(fI σ 1 g 0).toInt64, σ, rfl, (by unfold cOf; rw [hix]; simp only [if_pos c_27]; unfold oNum; rw [hwk, nI_clamp (by omega), hg]), iv_give ht hI⟩, hS.F ht⟩) hS.2.2 dX0_of_38)
  · have hix := gIx_none hxi_2
    refine W.eq (g2 := F0 m 5 ls (.null :: [])) rfl ?_
    refine lv_astore_nN (lv' := [(3, .null), (0, .ref (al 0 0)), (1, .int x), (2, .int w)]) hx hb dX0_of_5 rfl hl (by decide) rfl (fun ls hl => ?_)
    refine lv_aload_nN hx hb dX0_of_6 rfl (lv_at hl 0 rfl) ?_
    refine lv_ifnonnullN hx hb dX0_of_7 ?_
    exact vx_throwS (names := xnames) (text := "no such reservation") (sa := sa 202) hx hb hlt hown xIOB_fit xn_fit (hts _ w_2_232) (hts _ w_1_13) (wd_s hwd (202, "no such reservation") (List.mem_of_getElem? (i := 8) rfl)) (xIOB_hat hts (wd_n hwd)) xIOB_ot (wd_u hwd) (wd_v hwd) hS (hl.1.trans hml.symm) dX0_of_10 dX0_of_13 dX0_of_14 dX0_of_16 dX0_of_19 (fun x h => (hnoh x h).elim) (Nat.le_of_ble_eq_true rfl) (Nat.le_of_ble_eq_true rfl) (Nat.le_of_ble_eq_true rfl) (Nat.le_of_ble_eq_true rfl) hlocks (fun t ha9 hz9 hq9 => ⟨_, rfl, ⟨⟨rfl, (by unfold cOf; rw [hix])⟩, iv_kept hI hq9⟩, ⟨hz9, fun q h1 h2 => hq9 q h1⟩⟩) (fun z h => by cases h) (Nat.le_of_ble_eq_true rfl) (Nat.le_of_ble_eq_true rfl)

set_option maxHeartbeats 4000000 in
set_option maxRecDepth 100000 in
theorem k_draftCovers (l : Launch) (D : va_G) (dA : Nat → ClassId) (sa : Nat → Nat) (lo : Nat) (al : Nat → Nat → Nat) (σ μ : CS) (r : Nat) (hrn : r < nR σ) (hd : fR σ 0 0 5 = some r) (h : Nat) (hh : h < 8) (L : List Nat) (hc : Ch σ (fR σ 7 1 h) L) (x : Int64) : Met l yX0_draftCovers wsX0_draftCovers ({ frames := 3, cells := 0, slots := 0, locals := 90 }) (va_Pc [.ref (al 0 0), .int (nI h), .long x] (ivP D dA sa lo al σ μ)) (va_Qi (fun z u => (u, z) = ((dLay (rBeg σ r (nI h) x) r L x 0).1, b2i (dLay (rBeg σ r (nI h) x) r L x 0).2)) (ivB D dA lo al μ) (fun q => lo ≤ q)) 0 0 (fun q => lo ≤ q) := by
  refine Met.ofW (cc := cX0_draftCovers) (maxL := 9) (ret := some .boolean) (by decide) rfl ?_
  intro p e s m args below meth c s₁ B hml hv
  obtain ⟨rfl, hI, hwd⟩ := hv
  have hx := B.exec
  have hb := B.bytes
  have hr := B.returns
  have hts : ∀ w ∈ WSall, w.before _ s = true := fun w h => atoms_spec (ws := wsX0_draftCovers) B.pre w (List.mem_cons_of_mem _ h)
  have hown : s.vm.findClass RX0 = some m.cls := findClass_of_methodNamed B.named
  have hlocks := B.notSynchronized
  have hK := hwd.1
  have hS : va_S (fun q => lo ≤ q) s.heap s.heap [] := va_S.rf
  have hl := lv_entry ([.ref (al 0 0), .int (nI h), .long x]) (n := 9) (Nat.le_of_ble_eq_true rfl)
  rw [lg_entry_eq]
  generalize (lg_sl ([.ref (al 0 0), .int (nI h), .long x]) ++ List.replicate (9 - (lg_sl ([.ref (al 0 0), .int (nI h), .long x])).length) Slot.unset).toArray = ls at hl ⊢
  have hl : lv_has ls 9 [(0, .ref (al 0 0)), (1, .int (nI h)), (2, .long x)] := hl
  have hch8 : (nI h).toNatClampNeg = h := nI_clamp (by omega)
  refine lv_aload_n hx hb dX0_draftCovers_0 rfl (lv_at hl 0 rfl) ?_
  refine sx_get (ci := 0) (C := RX0) (T := TX0) (N := 10) (v := .ref (al 4 r)) hx hb hts inX0 hown hK (c0_at hI) rfl 5 (by decide) (hts _ w_1_64) rfl (congrArg (fun (z : Option Nat) => some (va_rf (Option.map (al 4) z))) hd) dX0_draftCovers_1 ?_
  refine lv_iload_n hx hb dX0_draftCovers_4 rfl (lv_at hl 1 rfl) ?_
  refine lv_lload_n hx hb dX0_draftCovers_5 rfl (lv_at hl 2 rfl) ?_
  refine va_callv (va_runV (As := [.int (nI h), .long x]) (rest := []) ⟨hx, hb, hml, hown, hts⟩ (k_beginFor l D dA sa lo al σ μ r hrn (nI h) x) (cwV 2 hts (gdV w_2_132 w_2_133 w_2_134 w_1_2 w_2_135) rfl rfl rfl (by decide +kernel) ⟨Nat.le_of_ble_eq_true rfl, Nat.le_of_ble_eq_true rfl⟩) ⟨iv_bl, sx_recv hK (c4_at hI hrn) rfl, fun U hU hW => ⟨rfl, iv_use hI hwd hS hU hW⟩⟩ rfl rfl hl.1 rfl (lv_room (Nat.le_of_ble_eq_true rfl)) dX0_draftCovers_6 ⟨Nat.le_of_ble_eq_true rfl, Nat.le_of_ble_eq_true rfl⟩) hS (fun q _ h => h) (fun q h => h) (fun u9 T9 H1 locs ht9 hvm9 e_6 hB9 hz9 hk9 hS => ?_)
  have hI := iv_take ht9 hB9
  clear hB9 hk9
  obtain rfl := e_6
  refine lv_lload_n hx hb dX0_draftCovers_9 rfl (lv_at hl 2 rfl) ?_
  refine lv_lstore (lv' := [(4, .long x), (0, .ref (al 0 0)), (1, .int (nI h)), (2, .long x)]) hx hb dX0_draftCovers_10 hl (by decide) rfl (fun ls hl => ?_)
  have hr0 : r < nR (rBeg σ r (nI h) x) := hrn
  refine lv_aload_n hx hb dX0_draftCovers_12 rfl (lv_at hl 1 rfl) ?_
  refine sx_get (ci := 0) (C := RX0) (T := TX0) (N := 10) (v := .ref (al 7 1)) hx hb hts inX0 hown hK (c0_at hI) rfl 1 (by decide) (hts _ w_1_60) rfl rfl dX0_draftCovers_13 ?_
  refine lv_iload_n hx hb dX0_draftCovers_16 rfl (lv_at hl 2 rfl) ?_
  refine sx_aldq hx hb hK (c7_1_at hI) 3 rfl (vp_in_nI hh (by decide)) dX0_draftCovers_17 ?_
  rw [hch8]
  refine sx_astore (lv' := [(6, va_rf (Option.map (al 1) (fR (rBeg σ r (nI h) x) 7 1 h))), (4, .long x), (0, .ref (al 0 0)), (1, .int (nI h)), (2, .long x)]) hx hb dX0_draftCovers_18 hl (by decide) rfl (fun ls hl => ?_)
  refine w_loop (hd := 20) (stk := []) (X := Option Nat × List Nat × Int64 × Nat × CS) (fun xx => match xx with | (o, t, w, q, τ) => t.length) (fun xx ls H locs => match xx with | (o, t, w, q, τ) => Inv D dA lo al (τ) μ H ∧ va_S (fun q => lo ≤ q) s.heap H locs ∧ (Ch τ o t ∧ dLay τ r t w q = dLay (rBeg σ r (nI h) x) r L x 0 ∧ fI τ 4 r 2 = nI q ∧ q ≤ 4 ∧ r < nR τ ∧ fR τ 0 0 5 = some r) ∧ lv_has ls 9 [(6, va_rf (o.map (al 1))), (4, .long w), (0, .ref (al 0 0))]) (fun xx ls H locs hk ih => ?_) (fR (rBeg σ r (nI h) x) 7 1 h, L, x, 0, rBeg σ r (nI h) x) ls _ _ ⟨hI, hS, ⟨Ch_of (σ := σ) (σ' := rBeg σ r (nI h) x) rfl rfl L _ hc, rfl, rBeg_n, Nat.zero_le _, hrn, hd⟩, lv_sub hl [0, 1, 2] rfl⟩
  obtain ⟨o, t, w, q, τ⟩ := xx
  obtain ⟨hI, hS, hk, hl⟩ := hk
  cases t with
  | nil =>
    obtain ⟨rfl, hk⟩ := hk
    have hl : lv_has ls 9 [(6, .null), (4, .long w), (0, .ref (al 0 0))] := hl
    obtain ⟨hk, hq9, hq4, hr9, hd9⟩ := hk
    refine lv_aloadN hx hb dX0_draftCovers_20 (lv_at hl 0 rfl) ?_
    refine lv_ifnullN (tgt := 84) hx hb dX0_draftCovers_22 (by decide) ?_
    refine lv_lload hx hb dX0_draftCovers_84 (lv_at hl 1 rfl) ?_
    refine lv_lconst (v := 0) hx hb dX0_draftCovers_86 (by decide) ?_
    refine W.lcmp hx hb dX0_draftCovers_87 ?_
    refine lv_if_ne (tgt := 95) hx hb dX0_draftCovers_88 (by decide) (fun c_88 => ?_) (fun c_88 => ?_)
    · have c_88 : ¬ w = 0 := fun h => c_88 ((lg_cmp_eq _ _).mpr h)
      refine lv_iconst (v := 0) hx hb dX0_draftCovers_95 (by decide) ?_
      exact W.zret (v := 0) hx hb hr rfl (fun t ht hW => ⟨⟨0, τ, rfl, (by rw [dLay] at hk; rw [← hk]; simp [b2i, c_88]), iv_give ht hI⟩, hS.F ht⟩) hS.2.2 dX0_draftCovers_96
    · have c_88 : w = 0 := (lg_cmp_eq _ _).mp c_88
      refine lv_iconst (v := 1) hx hb dX0_draftCovers_91 (by decide) ?_
      refine lv_goto (tgt := 96) hx hb dX0_draftCovers_92 (by decide) ?_
      exact W.zret (v := 1) hx hb hr rfl (fun t ht hW => ⟨⟨1, τ, rfl, (by rw [dLay] at hk; rw [← hk]; simp [b2i, c_88]), iv_give ht hI⟩, hS.F ht⟩) hS.2.2 dX0_draftCovers_96
  | cons g t =>
    obtain ⟨⟨rfl, hg, hch⟩, hk⟩ := hk
    have hl : lv_has ls 9 [(6, .ref (al 1 g)), (4, .long w), (0, .ref (al 0 0))] := hl
    obtain ⟨hk, hq9, hq4, hr9, hd9⟩ := hk
    refine lv_aload hx hb dX0_draftCovers_20 (lv_at hl 0 rfl) ?_
    refine lv_ifnull hx hb dX0_draftCovers_22 ?_
    refine lv_lload hx hb dX0_draftCovers_25 (lv_at hl 1 rfl) ?_
    refine lv_lconst (v := 0) hx hb dX0_draftCovers_27 (by decide) ?_
    refine W.lcmp hx hb dX0_draftCovers_28 ?_
    refine lv_if_le (tgt := 84) hx hb dX0_draftCovers_29 (by decide) (fun c_29 => ?_) (fun c_29 => ?_)
    · have c_29 : w ≤ 0 := (lg_cmp_le _ _).mp c_29
      refine lv_lload hx hb dX0_draftCovers_84 (lv_at hl 1 rfl) ?_
      refine lv_lconst (v := 0) hx hb dX0_draftCovers_86 (by decide) ?_
      refine W.lcmp hx hb dX0_draftCovers_87 ?_
      refine lv_if_ne (tgt := 95) hx hb dX0_draftCovers_88 (by decide) (fun c_88 => ?_) (fun c_88 => ?_)
      · have c_88 : ¬ w = 0 := fun h => c_88 ((lg_cmp_eq _ _).mpr h)
        refine lv_iconst (v := 0) hx hb dX0_draftCovers_95 (by decide) ?_
        exact W.zret (v := 0) hx hb hr rfl (fun t ht hW => ⟨⟨0, τ, rfl, (by rw [dLay, if_pos c_29] at hk; rw [← hk]; simp [b2i, c_88]), iv_give ht hI⟩, hS.F ht⟩) hS.2.2 dX0_draftCovers_96
      · have c_88 : w = 0 := (lg_cmp_eq _ _).mp c_88
        refine lv_iconst (v := 1) hx hb dX0_draftCovers_91 (by decide) ?_
        refine lv_goto (tgt := 96) hx hb dX0_draftCovers_92 (by decide) ?_
        exact W.zret (v := 1) hx hb hr rfl (fun t ht hW => ⟨⟨1, τ, rfl, (by rw [dLay, if_pos c_29] at hk; rw [← hk]; simp [b2i, c_88]), iv_give ht hI⟩, hS.F ht⟩) hS.2.2 dX0_draftCovers_96
    · have c_29 : ¬ w ≤ 0 := fun h => c_29 ((lg_cmp_le _ _).mpr h)
      refine lv_lload hx hb dX0_draftCovers_32 (lv_at hl 1 rfl) ?_
      refine lv_aload hx hb dX0_draftCovers_34 (lv_at hl 0 rfl) ?_
      refine vp_callSl (W.runV (As := []) (rest := [.long w]) ⟨hx, hb, hml, hown, hts⟩ (k_mayCover l D dA sa lo al τ μ g hg ) (cwV 0 hts (gdV w_1_146 w_1_147 w_1_148 w_1_9 w_1_149) rfl rfl rfl (by decide +kernel) ⟨Nat.le_of_ble_eq_true rfl, Nat.le_of_ble_eq_true rfl⟩) ⟨iv_bl, sx_recv hK (c1_at hI hg) rfl, fun U hU hW => ⟨rfl, iv_use hI hwd hS hU hW⟩⟩ rfl rfl hl.1 rfl (lv_room (Nat.le_of_ble_eq_true rfl)) dX0_draftCovers_36 ⟨Nat.le_of_ble_eq_true rfl, Nat.le_of_ble_eq_true rfl⟩) (fun r_36 e_36 => ?_)
      subst e_36
      refine va_mmin_long hx hb (hml.trans hl.1.symm) hown (hts _ w_1_163) (hts _ w_1_164) (hts _ w_1_12) (hts _ wm_min_long) (Nat.le_of_ble_eq_true rfl) (Nat.le_of_ble_eq_true rfl) (Nat.le_of_ble_eq_true rfl) (Nat.le_of_ble_eq_true rfl) dX0_draftCovers_39 ?_
      refine lv_lstore (lv' := [(7, .long (if (gMay τ g) < w then (gMay τ g) else w)), (6, .ref (al 1 g)), (4, .long w), (0, .ref (al 0 0))]) hx hb dX0_draftCovers_42 hl (by decide) rfl (fun ls hl => ?_)
      have hl : lv_has ls 9 [(7, .long (lMin w (gMay τ g))), (6, .ref (al 1 g)), (4, .long w), (0, .ref (al 0 0))] := hl
      refine lv_lload hx hb dX0_draftCovers_44 (lv_at hl 0 rfl) ?_
      refine lv_lconst (v := 0) hx hb dX0_draftCovers_46 (by decide) ?_
      refine W.lcmp hx hb dX0_draftCovers_47 ?_
      refine lv_if_le (tgt := 67) hx hb dX0_draftCovers_48 (by decide) (fun c_48 => ?_) (fun c_48 => ?_)
      · have c_48 : (lMin w (gMay τ g)) ≤ 0 := (lg_cmp_le _ _).mp c_48
        refine lv_lload hx hb dX0_draftCovers_67 (lv_at hl 2 rfl) ?_
        refine lv_lload hx hb dX0_draftCovers_69 (lv_at hl 0 rfl) ?_
        refine lv_lsub hx hb dX0_draftCovers_71 ?_
        refine lv_lstore (lv' := [(4, .long (w - (lMin w (gMay τ g)))), (7, .long (lMin w (gMay τ g))), (6, .ref (al 1 g)), (0, .ref (al 0 0))]) hx hb dX0_draftCovers_72 hl (by decide) rfl (fun ls hl => ?_)
        refine lv_aload hx hb dX0_draftCovers_74 (lv_at hl 2 rfl) ?_
        refine sx_getN (ci := 1) (C := RX1) (T := TX1) (N := 11) (v := va_rf (Option.map (al 1) (fR τ 1 g 10))) hx hb hts inX1 hown hK (c1_at hI hg) rfl 10 (by decide) (va_Nw.use rfl (wd_n hwd (.fieldLinkNest "GuaranteeBook" 175 "GuaranteeBook$Guarantee" "next" "LGuaranteeBook$Guarantee;" "GuaranteeBook") (List.mem_of_getElem? (i := 20) rfl))) rfl rfl dX0_draftCovers_76 ?_
        refine sx_astore (lv' := [(6, va_rf (Option.map (al 1) (fR τ 1 g 10))), (4, .long (w - (lMin w (gMay τ g)))), (7, .long (lMin w (gMay τ g))), (0, .ref (al 0 0))]) hx hb dX0_draftCovers_79 hl (by decide) rfl (fun ls hl => ?_)
        refine lv_goto (tgt := 20) hx hb dX0_draftCovers_81 (by decide) ?_
        exact ih (fR τ 1 g 10, t, w - (lMin w (gMay τ g)), q, τ) ls _ _ (by simp only [List.length_cons]; omega) ⟨hI, hS, ⟨hch, (by rw [dLay, if_neg c_29, if_pos c_48] at hk; exact ⟨hk, hq9, hq4, hr9, hd9⟩)⟩, lv_sub hl [0, 1, 3] rfl⟩
      · have c_48 : ¬ (lMin w (gMay τ g)) ≤ 0 := fun h => c_48 ((lg_cmp_le _ _).mpr h)
        refine lv_aload_n hx hb dX0_draftCovers_51 rfl (lv_at hl 3 rfl) ?_
        refine sx_get (ci := 0) (C := RX0) (T := TX0) (N := 10) (v := .ref (al 4 r)) hx hb hts inX0 hown hK (c0_at hI) rfl 5 (by decide) (hts _ w_1_64) rfl (congrArg (fun (z : Option Nat) => some (va_rf (Option.map (al 4) z))) hd9) dX0_draftCovers_52 ?_
        refine lv_aload hx hb dX0_draftCovers_55 (lv_at hl 1 rfl) ?_
        refine lv_lload hx hb dX0_draftCovers_57 (lv_at hl 0 rfl) ?_
        refine va_calli (va_runV (As := [.ref (al 1 g), .long (lMin w (gMay τ g))]) (rest := []) ⟨hx, hb, hml, hown, hts⟩ (k_addPart l D dA sa lo al τ μ r hr9 g q hg hq9 hq4 (lMin w (gMay τ g))) (cwV 2 hts (gdV w_2_136 w_2_137 w_2_138 w_1_2 w_2_139) rfl rfl rfl (by decide +kernel) ⟨Nat.le_of_ble_eq_true rfl, Nat.le_of_ble_eq_true rfl⟩) ⟨iv_bl, sx_recv hK (c4_at hI hr9) rfl, fun U hU hW => ⟨rfl, iv_use hI hwd hS hU hW⟩⟩ rfl rfl hl.1 rfl (lv_room (Nat.le_of_ble_eq_true rfl)) dX0_draftCovers_59 ⟨Nat.le_of_ble_eq_true rfl, Nat.le_of_ble_eq_true rfl⟩) hS (fun q _ h => h) (fun q h => h) (fun r_59 u9 T9 H1 locs ht9 hvm9 e_59 hB9 hz9 hk9 hS => ?_)
        have hI := iv_take ht9 hB9
        clear hB9 hk9
        have ha := e_59
        by_cases h4 : q < 4
        · obtain ⟨rfl, rfl⟩ := Eq.mp (if_pos h4) ha
          have hr9 : r < nR (rAdd τ r q g (lMin w (gMay τ g))) := hr9
          refine lv_if_ne (tgt := 67) hx hb dX0_draftCovers_62 (by decide) (fun c_62 => ?_) (fun c_62 => ?_)
          · refine lv_lload hx hb dX0_draftCovers_67 (lv_at hl 2 rfl) ?_
            refine lv_lload hx hb dX0_draftCovers_69 (lv_at hl 0 rfl) ?_
            refine lv_lsub hx hb dX0_draftCovers_71 ?_
            refine lv_lstore (lv' := [(4, .long (w - (lMin w (gMay τ g)))), (7, .long (lMin w (gMay τ g))), (6, .ref (al 1 g)), (0, .ref (al 0 0))]) hx hb dX0_draftCovers_72 hl (by decide) rfl (fun ls hl => ?_)
            refine lv_aload hx hb dX0_draftCovers_74 (lv_at hl 2 rfl) ?_
            refine sx_getN (ci := 1) (C := RX1) (T := TX1) (N := 11) (v := va_rf (Option.map (al 1) (fR (rAdd τ r q g (lMin w (gMay τ g))) 1 g 10))) hx hb hts inX1 hown hK (c1_at hI hg) rfl 10 (by decide) (va_Nw.use rfl (wd_n hwd (.fieldLinkNest "GuaranteeBook" 175 "GuaranteeBook$Guarantee" "next" "LGuaranteeBook$Guarantee;" "GuaranteeBook") (List.mem_of_getElem? (i := 20) rfl))) rfl rfl dX0_draftCovers_76 ?_
            refine sx_astore (lv' := [(6, va_rf (Option.map (al 1) (fR (rAdd τ r q g (lMin w (gMay τ g))) 1 g 10))), (4, .long (w - (lMin w (gMay τ g)))), (7, .long (lMin w (gMay τ g))), (0, .ref (al 0 0))]) hx hb dX0_draftCovers_79 hl (by decide) rfl (fun ls hl => ?_)
            refine lv_goto (tgt := 20) hx hb dX0_draftCovers_81 (by decide) ?_
            exact ih (fR (rAdd τ r q g (lMin w (gMay τ g))) 1 g 10, t, w - (lMin w (gMay τ g)), q + 1, rAdd τ r q g (lMin w (gMay τ g))) ls _ _ (by simp only [List.length_cons]; omega) ⟨hI, hS, ⟨(Ch_of (rAdd_R1 (by decide)) rfl t _ hch), (by rw [dLay, if_neg c_29, if_neg c_48, if_pos h4] at hk; exact ⟨hk, rAdd_n, h4, hr9, (by rw [rAdd_R1 (by decide)]; exact hd9)⟩)⟩, lv_sub hl [0, 1, 3] rfl⟩
          · exact absurd c_62 (by decide)
        · obtain ⟨rfl, hu9⟩ := Eq.mp (if_neg h4) ha
          rw [hu9] at hI
          refine lv_if_ne (tgt := 67) hx hb dX0_draftCovers_62 (by decide) (fun c_62 => ?_) (fun c_62 => ?_)
          · exact absurd (by decide) c_62
          · refine lv_iconst (v := 0) hx hb dX0_draftCovers_65 (by decide) ?_
            exact W.zret (v := 0) hx hb hr rfl (fun t ht hW => ⟨⟨0, τ, rfl, (by rw [dLay, if_neg c_29, if_neg c_48, if_neg h4] at hk; rw [← hk]; rfl), iv_give ht hI⟩, hS.F ht⟩) hS.2.2 dX0_draftCovers_66

set_option maxHeartbeats 4000000 in
set_option maxRecDepth 100000 in
theorem k_putLast (l : Launch) (D : va_G) (dA : Nat → ClassId) (sa : Nat → Nat) (lo : Nat) (al : Nat → Nat → Nat) (σ μ : CS) (g h : Nat) (hg : g < nG σ) (hh : h < 8) (ho : fI σ 1 g 1 = nI h) (L : List Nat) (hc : Ch σ (fR σ 7 1 h) L) : Met l yX0_putLast wsX0_putLast ({ frames := 0, cells := 0, slots := 0, locals := 0 }) (va_Pc [.ref (al 0 0), .ref (al 1 g)] (ivP D dA sa lo al σ μ)) (va_Qv (fun u => u = pLast σ h g L) (ivB D dA lo al μ) (fun q => lo ≤ q)) 0 0 (fun q => lo ≤ q) := by
  refine Met.ofW (cc := cX0_putLast) (maxL := 3) (ret := none) (by decide) rfl ?_
  intro p e s m args below meth c s₁ B hml hv
  obtain ⟨rfl, hI, hwd⟩ := hv
  have hx := B.exec
  have hb := B.bytes
  have hr := B.returns
  have hts : ∀ w ∈ WSall, w.before _ s = true := fun w h => atoms_spec (ws := wsX0_putLast) B.pre w (List.mem_cons_of_mem _ h)
  have hown : s.vm.findClass RX0 = some m.cls := findClass_of_methodNamed B.named
  have hlocks := B.notSynchronized
  have hK := hwd.1
  have hS : va_S (fun q => lo ≤ q) s.heap s.heap [] := va_S.rf
  have hl := lv_entry ([.ref (al 0 0), .ref (al 1 g)]) (n := 3) (Nat.le_of_ble_eq_true rfl)
  rw [lg_entry_eq]
  generalize (lg_sl ([.ref (al 0 0), .ref (al 1 g)]) ++ List.replicate (3 - (lg_sl ([.ref (al 0 0), .ref (al 1 g)])).length) Slot.unset).toArray = ls at hl ⊢
  have hl : lv_has ls 3 [(0, .ref (al 0 0)), (1, .ref (al 1 g))] := hl
  have hfi : (fI σ 1 g 1).toNatClampNeg = h := by rw [ho]; exact nI_clamp (by omega)
  have hin : vp_in (fI σ 1 g 1) 8 := by rw [ho]; exact vp_in_nI hh (by decide)
  refine lv_aload_n hx hb dX0_putLast_0 rfl (lv_at hl 0 rfl) ?_
  refine sx_get (ci := 0) (C := RX0) (T := TX0) (N := 10) (v := .ref (al 7 1)) hx hb hts inX0 hown hK (c0_at hI) rfl 1 (by decide) (hts _ w_1_60) rfl rfl dX0_putLast_1 ?_
  refine lv_aload_n hx hb dX0_putLast_4 rfl (lv_at hl 1 rfl) ?_
  refine sx_getN (ci := 1) (C := RX1) (T := TX1) (N := 11) (v := .int (fI σ 1 g 1)) hx hb hts inX1 hown hK (c1_at hI hg) rfl 1 (by decide) (va_Nw.use rfl (wd_n hwd (.fieldLinkNest "GuaranteeBook" 87 "GuaranteeBook$Guarantee" "holder" "I" "GuaranteeBook") (List.mem_of_getElem? (i := 13) rfl))) rfl rfl dX0_putLast_5 ?_
  refine sx_aldq hx hb hK (c7_1_at hI) 3 rfl hin dX0_putLast_8 ?_
  rw [hfi]
  refine sx_astore_n (lv' := [(2, va_rf (Option.map (al 1) (fR σ 7 1 h))), (0, .ref (al 0 0)), (1, .ref (al 1 g))]) hx hb dX0_putLast_9 rfl hl (by decide) rfl (fun ls hl => ?_)
  cases L with
  | nil =>
    have hc : fR σ 7 1 h = none := hc
    rw [hc] at hl
    have hl : lv_has ls 3 [(2, .null), (0, .ref (al 0 0)), (1, .ref (al 1 g))] := hl
    refine lv_aload_nN hx hb dX0_putLast_10 rfl (lv_at hl 0 rfl) ?_
    refine lv_ifnonnullN hx hb dX0_putLast_11 ?_
    refine lv_aload_n hx hb dX0_putLast_14 rfl (lv_at hl 1 rfl) ?_
    refine sx_get (ci := 0) (C := RX0) (T := TX0) (N := 10) (v := .ref (al 7 1)) hx hb hts inX0 hown hK (c0_at hI) rfl 1 (by decide) (hts _ w_1_60) rfl rfl dX0_putLast_15 ?_
    refine lv_aload_n hx hb dX0_putLast_18 rfl (lv_at hl 2 rfl) ?_
    refine sx_getN (ci := 1) (C := RX1) (T := TX1) (N := 11) (v := .int (fI σ 1 g 1)) hx hb hts inX1 hown hK (c1_at hI hg) rfl 1 (by decide) (va_Nw.use rfl (wd_n hwd (.fieldLinkNest "GuaranteeBook" 87 "GuaranteeBook$Guarantee" "holder" "I" "GuaranteeBook") (List.mem_of_getElem? (i := 13) rfl))) rfl rfl dX0_putLast_19 ?_
    refine lv_aload_n hx hb dX0_putLast_22 rfl (lv_at hl 2 rfl) ?_
    refine sx_astq (ci := 1) (r := (RX1, TX1, 11)) hx hb hK hS (c7_1_at hI) (c7_1_lo hI) 3 rfl (c1_at hI hg) rfl hin dX0_putLast_23 (fun H locs hq => ?_)
    rw [hfi] at hq
    have hI := c7_1_uR (f := h) (v := g) hI hq
    have hS := hq.2.2.2
    exact W.vret hx hb hr (fun t ht hW => ⟨⟨uR σ 7 1 h (some g), rfl, rfl, iv_give ht hI⟩, hS.F ht⟩) hS.2.2 dX0_putLast_24
  | cons z0 t0 =>
    obtain ⟨hc, hz0, hc0⟩ := hc
    rw [hc] at hl
    have hl : lv_has ls 3 [(2, .ref (al 1 z0)), (0, .ref (al 0 0)), (1, .ref (al 1 g))] := hl
    refine lv_aload_n hx hb dX0_putLast_10 rfl (lv_at hl 0 rfl) ?_
    refine lv_ifnonnull (tgt := 25) hx hb dX0_putLast_11 (by decide) ?_
    refine w_loopP (hd := 25) (stk := []) (X := Nat × List Nat) (fun xx => match xx with | (z, t) => t.length) (fun xx ls => match xx with | (z, t) => (z < nG σ ∧ Ch σ (fR σ 1 z 10) t ∧ (z :: t).getLast? = (z0 :: t0).getLast?) ∧ lv_has ls 3 [(2, .ref (al 1 z)), (1, .ref (al 1 g)), (0, .ref (al 0 0))]) (fun xx ls hk ih => ?_) (z0, t0) ls ⟨⟨hz0, hc0, rfl⟩, lv_sub hl [0, 2, 1] rfl⟩
    obtain ⟨z, t⟩ := xx
    obtain ⟨⟨hz, hch, hk⟩, hl⟩ := hk
    cases t with
    | nil =>
      have hl : lv_has ls 3 [(2, .ref (al 1 z)), (1, .ref (al 1 g)), (0, .ref (al 0 0))] := hl
      have hch : fR σ 1 z 10 = none := hch
      refine lv_aload_n hx hb dX0_putLast_25 rfl (lv_at hl 0 rfl) ?_
      refine sx_getN (ci := 1) (C := RX1) (T := TX1) (N := 11) (v := .null) hx hb hts inX1 hown hK (c1_at hI hz) rfl 10 (by decide) (va_Nw.use rfl (wd_n hwd (.fieldLinkNest "GuaranteeBook" 175 "GuaranteeBook$Guarantee" "next" "LGuaranteeBook$Guarantee;" "GuaranteeBook") (List.mem_of_getElem? (i := 20) rfl))) rfl (congrArg (fun (z : Option Nat) => some (va_rf (Option.map (al 1) z))) hch) dX0_putLast_26 ?_
      refine lv_ifnullN (tgt := 40) hx hb dX0_putLast_29 (by decide) ?_
      refine lv_aload_n hx hb dX0_putLast_40 rfl (lv_at hl 0 rfl) ?_
      refine lv_aload_n hx hb dX0_putLast_41 rfl (lv_at hl 1 rfl) ?_
      refine sx_putN (ci := 1) (v := .ref (al 1 g)) (ty := .object "GuaranteeBook$Guarantee") (C := RX1) (T := TX1) (N := 11) hx hb hts inX1 tyX1 okX1 nmX1 hown hK hS (c1_at hI hz) (c1_lo hI hz) rfl 10 (by decide) (va_Nw.use rfl (wd_n hwd (.fieldLinkNest "GuaranteeBook" 175 "GuaranteeBook$Guarantee" "next" "LGuaranteeBook$Guarantee;" "GuaranteeBook") (List.mem_of_getElem? (i := 20) rfl))) rfl rfl (by decide +kernel) rfl rfl (Nat.le_of_ble_eq_true rfl) dX0_putLast_42 (fun H locs hq => ?_)
      have hI := c1_uR (f := 10) (v := (some g)) hI hz rfl hq
      have hS := hq.2.2.2
      exact W.vret hx hb hr (fun t ht hW => ⟨⟨uR σ 1 z 10 (some g), rfl, (by unfold pLast; rw [← hk]; rfl), iv_give ht hI⟩, hS.F ht⟩) hS.2.2 dX0_putLast_45
    | cons z2 t =>
      have hl : lv_has ls 3 [(2, .ref (al 1 z)), (1, .ref (al 1 g)), (0, .ref (al 0 0))] := hl
      obtain ⟨hch, hz2, hc2⟩ := hch
      refine lv_aload_n hx hb dX0_putLast_25 rfl (lv_at hl 0 rfl) ?_
      refine sx_getN (ci := 1) (C := RX1) (T := TX1) (N := 11) (v := .ref (al 1 z2)) hx hb hts inX1 hown hK (c1_at hI hz) rfl 10 (by decide) (va_Nw.use rfl (wd_n hwd (.fieldLinkNest "GuaranteeBook" 175 "GuaranteeBook$Guarantee" "next" "LGuaranteeBook$Guarantee;" "GuaranteeBook") (List.mem_of_getElem? (i := 20) rfl))) rfl (congrArg (fun (z : Option Nat) => some (va_rf (Option.map (al 1) z))) hch) dX0_putLast_26 ?_
      refine lv_ifnull hx hb dX0_putLast_29 ?_
      refine lv_aload_n hx hb dX0_putLast_32 rfl (lv_at hl 0 rfl) ?_
      refine sx_getN (ci := 1) (C := RX1) (T := TX1) (N := 11) (v := .ref (al 1 z2)) hx hb hts inX1 hown hK (c1_at hI hz) rfl 10 (by decide) (va_Nw.use rfl (wd_n hwd (.fieldLinkNest "GuaranteeBook" 175 "GuaranteeBook$Guarantee" "next" "LGuaranteeBook$Guarantee;" "GuaranteeBook") (List.mem_of_getElem? (i := 20) rfl))) rfl (congrArg (fun (z : Option Nat) => some (va_rf (Option.map (al 1) z))) hch) dX0_putLast_33 ?_
      refine lv_astore_n (lv' := [(2, .ref (al 1 z2)), (1, .ref (al 1 g)), (0, .ref (al 0 0))]) hx hb dX0_putLast_36 rfl hl (by decide) rfl (fun ls hl => ?_)
      refine lv_goto (tgt := 25) hx hb dX0_putLast_37 (by decide) ?_
      exact ih (z2, t) ls (by simp only [List.length_cons]; omega) ⟨⟨hz2, hc2, (by rw [← hk]; rfl)⟩, lv_sub hl [0, 1, 2] rfl⟩

set_option maxHeartbeats 4000000 in
set_option maxRecDepth 100000 in
theorem k_putFirst (l : Launch) (D : va_G) (dA : Nat → ClassId) (sa : Nat → Nat) (lo : Nat) (al : Nat → Nat → Nat) (σ μ : CS) (g h b : Nat) (hg : g < nG σ) (hh : h < 8) (ho : fI σ 1 g 1 = nI h) (A L : List Nat) (hc : Ch σ (fR σ 7 1 h) (A ++ b :: g :: L)) (hnd : (A ++ b :: g :: L).Nodup) : Met l yX0_putFirst wsX0_putFirst ({ frames := 0, cells := 0, slots := 0, locals := 0 }) (va_Pc [.ref (al 0 0), .ref (al 1 g)] (ivP D dA sa lo al σ μ)) (va_Qv (fun u => u = pFirst σ h b g) (ivB D dA lo al μ) (fun q => lo ≤ q)) 0 0 (fun q => lo ≤ q) := by
  refine Met.ofW (cc := cX0_putFirst) (maxL := 3) (ret := none) (by decide) rfl ?_
  intro p e s m args below meth c s₁ B hml hv
  obtain ⟨rfl, hI, hwd⟩ := hv
  have hx := B.exec
  have hb := B.bytes
  have hr := B.returns
  have hts : ∀ w ∈ WSall, w.before _ s = true := fun w h => atoms_spec (ws := wsX0_putFirst) B.pre w (List.mem_cons_of_mem _ h)
  have hown : s.vm.findClass RX0 = some m.cls := findClass_of_methodNamed B.named
  have hlocks := B.notSynchronized
  have hK := hwd.1
  have hS : va_S (fun q => lo ≤ q) s.heap s.heap [] := va_S.rf
  have hl := lv_entry ([.ref (al 0 0), .ref (al 1 g)]) (n := 3) (Nat.le_of_ble_eq_true rfl)
  rw [lg_entry_eq]
  generalize (lg_sl ([.ref (al 0 0), .ref (al 1 g)]) ++ List.replicate (3 - (lg_sl ([.ref (al 0 0), .ref (al 1 g)])).length) Slot.unset).toArray = ls at hl ⊢
  have hl : lv_has ls 3 [(0, .ref (al 0 0)), (1, .ref (al 1 g))] := hl
  have hfi : (fI σ 1 g 1).toNatClampNeg = h := by rw [ho]; exact nI_clamp (by omega)
  have hin : vp_in (fI σ 1 g 1) 8 := by rw [ho]; exact vp_in_nI hh (by decide)
  refine lv_aload_n hx hb dX0_putFirst_0 rfl (lv_at hl 0 rfl) ?_
  refine sx_get (ci := 0) (C := RX0) (T := TX0) (N := 10) (v := .ref (al 7 1)) hx hb hts inX0 hown hK (c0_at hI) rfl 1 (by decide) (hts _ w_1_60) rfl rfl dX0_putFirst_1 ?_
  refine lv_aload_n hx hb dX0_putFirst_4 rfl (lv_at hl 1 rfl) ?_
  refine sx_getN (ci := 1) (C := RX1) (T := TX1) (N := 11) (v := .int (fI σ 1 g 1)) hx hb hts inX1 hown hK (c1_at hI hg) rfl 1 (by decide) (va_Nw.use rfl (wd_n hwd (.fieldLinkNest "GuaranteeBook" 87 "GuaranteeBook$Guarantee" "holder" "I" "GuaranteeBook") (List.mem_of_getElem? (i := 13) rfl))) rfl rfl dX0_putFirst_5 ?_
  refine sx_aldq hx hb hK (c7_1_at hI) 3 rfl hin dX0_putFirst_8 ?_
  rw [hfi]
  refine sx_astore_n (lv' := [(2, va_rf (Option.map (al 1) (fR σ 7 1 h))), (0, .ref (al 0 0)), (1, .ref (al 1 g))]) hx hb dX0_putFirst_9 rfl hl (by decide) rfl (fun ls hl => ?_)
  refine w_loopP (hd := 10) (stk := []) (X := Option Nat × List Nat) (fun xx => match xx with | (o, t) => t.length) (fun xx ls => match xx with | (o, t) => (Ch σ o (t ++ b :: g :: L) ∧ (t ++ b :: g :: L).Nodup) ∧ lv_has ls 3 [(2, va_rf (Option.map (al 1) o)), (1, .ref (al 1 g)), (0, .ref (al 0 0))]) (fun xx ls hk ih => ?_) (fR σ 7 1 h, A) ls ⟨⟨hc, hnd⟩, lv_sub hl [0, 2, 1] rfl⟩
  obtain ⟨o, t⟩ := xx
  obtain ⟨⟨hch, hnd⟩, hl⟩ := hk
  cases t with
  | nil =>
    obtain ⟨rfl, hz, hch⟩ := hch
    have hl : lv_has ls 3 [(2, .ref (al 1 b)), (1, .ref (al 1 g)), (0, .ref (al 0 0))] := hl
    obtain ⟨hnx, -, -⟩ := id hch
    refine lv_aload_n hx hb dX0_putFirst_10 rfl (lv_at hl 0 rfl) ?_
    refine lv_ifnull hx hb dX0_putFirst_11 ?_
    refine lv_aload_n hx hb dX0_putFirst_14 rfl (lv_at hl 0 rfl) ?_
    refine sx_getN (ci := 1) (C := RX1) (T := TX1) (N := 11) (v := .ref (al 1 g)) hx hb hts inX1 hown hK (c1_at hI hz) rfl 10 (by decide) (va_Nw.use rfl (wd_n hwd (.fieldLinkNest "GuaranteeBook" 175 "GuaranteeBook$Guarantee" "next" "LGuaranteeBook$Guarantee;" "GuaranteeBook") (List.mem_of_getElem? (i := 20) rfl))) rfl (congrArg (fun (z : Option Nat) => some (va_rf (Option.map (al 1) z))) hnx) dX0_putFirst_15 ?_
    refine lv_aload_n hx hb dX0_putFirst_18 rfl (lv_at hl 1 rfl) ?_
    refine lv_acmp_eq (rx := some (al 1 g)) (ry := some (al 1 g)) (tgt := 30) hx hb dX0_putFirst_19 (by decide) (fun c_19 => ?_) (fun c_19 => ?_)
    · refine lv_aload_n hx hb dX0_putFirst_30 rfl (lv_at hl 0 rfl) ?_
      refine lv_ifnull hx hb dX0_putFirst_31 ?_
      refine lv_aload_n hx hb dX0_putFirst_34 rfl (lv_at hl 0 rfl) ?_
      refine lv_aload_n hx hb dX0_putFirst_35 rfl (lv_at hl 1 rfl) ?_
      refine sx_getN (ci := 1) (C := RX1) (T := TX1) (N := 11) (v := va_rf (Option.map (al 1) (fR σ 1 g 10))) hx hb hts inX1 hown hK (c1_at hI hg) rfl 10 (by decide) (va_Nw.use rfl (wd_n hwd (.fieldLinkNest "GuaranteeBook" 175 "GuaranteeBook$Guarantee" "next" "LGuaranteeBook$Guarantee;" "GuaranteeBook") (List.mem_of_getElem? (i := 20) rfl))) rfl rfl dX0_putFirst_36 ?_
      refine sx_putN (ci := 1) (v := va_rf (Option.map (al 1) (fR σ 1 g 10))) (ty := .object "GuaranteeBook$Guarantee") (C := RX1) (T := TX1) (N := 11) hx hb hts inX1 tyX1 okX1 nmX1 hown hK hS (c1_at hI hz) (c1_lo hI hz) rfl 10 (by decide) (va_Nw.use rfl (wd_n hwd (.fieldLinkNest "GuaranteeBook" 175 "GuaranteeBook$Guarantee" "next" "LGuaranteeBook$Guarantee;" "GuaranteeBook") (List.mem_of_getElem? (i := 20) rfl))) rfl rfl (by decide +kernel) (rf_nar _ _) (rf_fit _ _) (Nat.le_of_ble_eq_true rfl) dX0_putFirst_39 (fun H locs hq => ?_)
      have hI := c1_uR (f := 10) (v := (fR σ 1 g 10)) hI hz rfl hq
      have hS := hq.2.2.2
      refine lv_aload_n hx hb dX0_putFirst_42 rfl (lv_at hl 1 rfl) ?_
      refine lv_aload_n hx hb dX0_putFirst_43 rfl (lv_at hl 2 rfl) ?_
      refine sx_get (ci := 0) (C := RX0) (T := TX0) (N := 10) (v := .ref (al 7 1)) hx hb hts inX0 hown hK (c0_at hI) rfl 1 (by decide) (hts _ w_1_60) rfl rfl dX0_putFirst_44 ?_
      refine lv_aload_n hx hb dX0_putFirst_47 rfl (lv_at hl 1 rfl) ?_
      refine sx_getN (ci := 1) (C := RX1) (T := TX1) (N := 11) (v := .int (fI σ 1 g 1)) hx hb hts inX1 hown hK (c1_at hI hg) rfl 1 (by decide) (va_Nw.use rfl (wd_n hwd (.fieldLinkNest "GuaranteeBook" 87 "GuaranteeBook$Guarantee" "holder" "I" "GuaranteeBook") (List.mem_of_getElem? (i := 13) rfl))) rfl rfl dX0_putFirst_48 ?_
      refine sx_aldq hx hb hK (c7_1_at hI) 3 rfl hin dX0_putFirst_51 ?_
      rw [hfi]
      refine sx_putN (ci := 1) (v := va_rf (Option.map (al 1) (fR σ 7 1 h))) (ty := .object "GuaranteeBook$Guarantee") (C := RX1) (T := TX1) (N := 11) hx hb hts inX1 tyX1 okX1 nmX1 hown hK hS (c1_at hI hg) (c1_lo hI hg) rfl 10 (by decide) (va_Nw.use rfl (wd_n hwd (.fieldLinkNest "GuaranteeBook" 175 "GuaranteeBook$Guarantee" "next" "LGuaranteeBook$Guarantee;" "GuaranteeBook") (List.mem_of_getElem? (i := 20) rfl))) rfl rfl (by decide +kernel) (rf_nar _ _) (rf_fit _ _) (Nat.le_of_ble_eq_true rfl) dX0_putFirst_52 (fun H locs hq => ?_)
      have hI := c1_uR (f := 10) (v := (fR σ 7 1 h)) hI hg rfl hq
      have hS := hq.2.2.2
      refine lv_aload_n hx hb dX0_putFirst_55 rfl (lv_at hl 2 rfl) ?_
      refine sx_get (ci := 0) (C := RX0) (T := TX0) (N := 10) (v := .ref (al 7 1)) hx hb hts inX0 hown hK (c0_at hI) rfl 1 (by decide) (hts _ w_1_60) rfl rfl dX0_putFirst_56 ?_
      refine lv_aload_n hx hb dX0_putFirst_59 rfl (lv_at hl 1 rfl) ?_
      refine sx_getN (ci := 1) (C := RX1) (T := TX1) (N := 11) (v := .int (fI σ 1 g 1)) hx hb hts inX1 hown hK (c1_at hI hg) rfl 1 (by decide) (va_Nw.use rfl (wd_n hwd (.fieldLinkNest "GuaranteeBook" 87 "GuaranteeBook$Guarantee" "holder" "I" "GuaranteeBook") (List.mem_of_getElem? (i := 13) rfl))) rfl rfl dX0_putFirst_60 ?_
      refine lv_aload_n hx hb dX0_putFirst_63 rfl (lv_at hl 1 rfl) ?_
      refine sx_astq (ci := 1) (r := (RX1, TX1, 11)) hx hb hK hS (c7_1_at hI) (c7_1_lo hI) 3 rfl (c1_at hI hg) rfl hin dX0_putFirst_64 (fun H locs hq => ?_)
      rw [hfi] at hq
      have hI := c7_1_uR (f := h) (v := g) hI hq
      have hS := hq.2.2.2
      exact W.vret hx hb hr (fun t ht hW => ⟨⟨uR (uR (uR σ 1 b 10 (fR σ 1 g 10)) 1 g 10 (fR σ 7 1 h)) 7 1 h (some g), rfl, rfl, iv_give ht hI⟩, hS.F ht⟩) hS.2.2 dX0_putFirst_65
    · exact absurd rfl c_19
  | cons a t =>
    obtain ⟨rfl, hz, hch⟩ := hch
    have hl : lv_has ls 3 [(2, .ref (al 1 a)), (1, .ref (al 1 g)), (0, .ref (al 0 0))] := hl
    obtain ⟨z2, hnx, hz2, hmem⟩ := Ch_ne t b (g :: L) _ hch
    have hne : z2 ≠ g := nd_ne hnd hmem
    refine lv_aload_n hx hb dX0_putFirst_10 rfl (lv_at hl 0 rfl) ?_
    refine lv_ifnull hx hb dX0_putFirst_11 ?_
    refine lv_aload_n hx hb dX0_putFirst_14 rfl (lv_at hl 0 rfl) ?_
    refine sx_getN (ci := 1) (C := RX1) (T := TX1) (N := 11) (v := .ref (al 1 z2)) hx hb hts inX1 hown hK (c1_at hI hz) rfl 10 (by decide) (va_Nw.use rfl (wd_n hwd (.fieldLinkNest "GuaranteeBook" 175 "GuaranteeBook$Guarantee" "next" "LGuaranteeBook$Guarantee;" "GuaranteeBook") (List.mem_of_getElem? (i := 20) rfl))) rfl (congrArg (fun (z : Option Nat) => some (va_rf (Option.map (al 1) z))) hnx) dX0_putFirst_15 ?_
    refine lv_aload_n hx hb dX0_putFirst_18 rfl (lv_at hl 1 rfl) ?_
    refine lv_acmp_eq (rx := some (al 1 z2)) (ry := some (al 1 g)) (tgt := 30) hx hb dX0_putFirst_19 (by decide) (fun c_19 => ?_) (fun c_19 => ?_)
    · exact absurd (iv_inj hI hz2 hg (Option.some.inj c_19)) hne
    · refine lv_aload_n hx hb dX0_putFirst_22 rfl (lv_at hl 0 rfl) ?_
      refine sx_getN (ci := 1) (C := RX1) (T := TX1) (N := 11) (v := .ref (al 1 z2)) hx hb hts inX1 hown hK (c1_at hI hz) rfl 10 (by decide) (va_Nw.use rfl (wd_n hwd (.fieldLinkNest "GuaranteeBook" 175 "GuaranteeBook$Guarantee" "next" "LGuaranteeBook$Guarantee;" "GuaranteeBook") (List.mem_of_getElem? (i := 20) rfl))) rfl (congrArg (fun (z : Option Nat) => some (va_rf (Option.map (al 1) z))) hnx) dX0_putFirst_23 ?_
      refine lv_astore_n (lv' := [(2, .ref (al 1 z2)), (1, .ref (al 1 g)), (0, .ref (al 0 0))]) hx hb dX0_putFirst_26 rfl hl (by decide) rfl (fun ls hl => ?_)
      refine lv_goto (tgt := 10) hx hb dX0_putFirst_27 (by decide) ?_
      exact ih (some z2, t) ls (by simp only [List.length_cons]; omega) ⟨⟨(by rw [← hnx]; exact hch), (List.nodup_cons.mp hnd).2⟩, lv_sub hl [0, 1, 2] rfl⟩

set_option maxHeartbeats 4000000 in
set_option maxRecDepth 100000 in
theorem k_shrinkBy (l : Launch) (D : va_G) (dA : Nat → ClassId) (sa : Nat → Nat) (lo : Nat) (al : Nat → Nat → Nat) (σ μ : CS) (j : Nat) (hj : j < nR σ) (n : Nat) (hn : fI σ 4 j 2 = nI n) (hn4 : n ≤ 4) (hp : ∀ k, k < n → ∃ g, fR σ 5 j k = some g ∧ g < nG σ) (x : Int64) : Met l yX4_shrinkBy wsX4_shrinkBy ({ frames := 3, cells := 0, slots := 0, locals := 120 }) (va_Pc [.ref (al 4 j), .long x] (ivP D dA sa lo al σ μ)) (va_Qv (fun u => u = rShr σ j n x) (ivB D dA lo al μ) (fun q => lo ≤ q)) 0 0 (fun q => lo ≤ q) := by
  refine Met.ofW (cc := cX4_shrinkBy) (maxL := 8) (ret := none) (by decide) rfl ?_
  intro p e s m args below meth c s₁ B hml hv
  obtain ⟨rfl, hI, hwd⟩ := hv
  have hx := B.exec
  have hb := B.bytes
  have hr := B.returns
  have hts : ∀ w ∈ WSall, w.before _ s = true := fun w h => atoms_spec (ws := wsX4_shrinkBy) B.pre w (List.mem_cons_of_mem _ h)
  have hown : s.vm.findClass RX4 = some m.cls := findClass_of_methodNamed B.named
  have hlocks := B.notSynchronized
  have hK := hwd.1
  have hS : va_S (fun q => lo ≤ q) s.heap s.heap [] := va_S.rf
  have hl := lv_entry ([.ref (al 4 j), .long x]) (n := 8) (Nat.le_of_ble_eq_true rfl)
  rw [lg_entry_eq]
  generalize (lg_sl ([.ref (al 4 j), .long x]) ++ List.replicate (8 - (lg_sl ([.ref (al 4 j), .long x])).length) Slot.unset).toArray = ls at hl ⊢
  have hl : lv_has ls 8 [(0, .ref (al 4 j)), (1, .long x)] := hl
  refine lv_lload_n hx hb dX4_shrinkBy_0 rfl (lv_at hl 1 rfl) ?_
  refine lv_lstore_n (lv' := [(3, .long x), (0, .ref (al 4 j)), (1, .long x)]) hx hb dX4_shrinkBy_1 rfl hl (by decide) rfl (fun ls hl => ?_)
  refine lv_aload_n hx hb dX4_shrinkBy_2 rfl (lv_at hl 1 rfl) ?_
  refine sx_get (ci := 4) (C := RX4) (T := TX4) (N := 6) (v := .int (fI σ 4 j 2)) hx hb hts inX4 hown hK (c4_at hI hj) rfl 2 (by decide) (hts _ w_1_35) rfl rfl dX4_shrinkBy_3 ?_
  refine lv_iconst (v := 1) hx hb dX4_shrinkBy_6 (by decide) ?_
  refine lv_isub hx hb dX4_shrinkBy_7 ?_
  refine lv_istore (lv' := [(5, .int ((fI σ 4 j 2) - 1)), (3, .long x), (0, .ref (al 4 j)), (1, .long x)]) hx hb dX4_shrinkBy_8 hl (by decide) rfl (fun ls hl => ?_)
  refine w_loop (hd := 10) (stk := []) (X := Nat × Int64 × CS) (fun xx => match xx with | (q, left, τ) => q) (fun xx ls H locs => match xx with | (q, left, τ) => Inv D dA lo al τ μ H ∧ va_S (fun q => lo ≤ q) s.heap H locs ∧ (rShr τ j q left = rShr σ j n x ∧ q ≤ n ∧ nR τ = nR σ ∧ nG τ = nG σ ∧ fR τ = fR σ) ∧ lv_has ls 8 [(5, .int (nI q - 1)), (3, .long left), (0, .ref (al 4 j))]) (fun xx ls H locs hk ih => ?_) (n, x, σ) ls _ _ ⟨hI, hS, ⟨rfl, Nat.le_refl _, rfl, rfl, rfl⟩, (by have h9 := lv_sub hl [0, 1, 2] rfl; rw [hn] at h9; exact h9)⟩
  obtain ⟨q, left, τ⟩ := xx
  obtain ⟨hI, hS, ⟨hk, hqn, hNR, hNG, hFR⟩, hl⟩ := hk
  have hjk : j < nR τ := by rw [hNR]; exact hj
  cases q with
  | zero =>
    have hl : lv_has ls 8 [(5, .int (nI 0 - 1)), (3, .long left), (0, .ref (al 4 j))] := hl
    refine lv_iload hx hb dX4_shrinkBy_10 (lv_at hl 0 rfl) ?_
    refine lv_if_lt (tgt := 98) hx hb dX4_shrinkBy_12 (by decide) (fun c_12 => ?_) (fun c_12 => ?_)
    · exact W.vret hx hb hr (fun t ht hW => ⟨⟨τ, rfl, hk, iv_give ht hI⟩, hS.F ht⟩) hS.2.2 dX4_shrinkBy_98
    · exact absurd (by decide) c_12
  | succ k =>
    rw [nI_pred] at hl
    have hl : lv_has ls 8 [(5, .int (nI k)), (3, .long left), (0, .ref (al 4 j))] := hl
    have hck : (nI k).toNatClampNeg = k := nI_clamp (by omega)
    obtain ⟨g, hg, hgn⟩ := hp k hqn
    have hg : fR τ 5 j k = some g := by rw [hFR]; exact hg
    have hgn : g < nG τ := by rw [hNG]; exact hgn
    refine lv_iload hx hb dX4_shrinkBy_10 (lv_at hl 0 rfl) ?_
    refine lv_if_lt (tgt := 98) hx hb dX4_shrinkBy_12 (by decide) (fun c_12 => ?_) (fun c_12 => ?_)
    · exact absurd c_12 (nI_pos (by omega))
    · refine lv_lload_n hx hb dX4_shrinkBy_15 rfl (lv_at hl 1 rfl) ?_
      refine lv_lconst (v := 0) hx hb dX4_shrinkBy_16 (by decide) ?_
      refine W.lcmp hx hb dX4_shrinkBy_17 ?_
      refine lv_if_le (tgt := 98) hx hb dX4_shrinkBy_18 (by decide) (fun c_18 => ?_) (fun c_18 => ?_)
      · have c_18 : left ≤ 0 := (lg_cmp_le _ _).mp c_18
        exact W.vret hx hb hr (fun t ht hW => ⟨⟨τ, rfl, (by rw [rShr, if_pos c_18] at hk; exact hk), iv_give ht hI⟩, hS.F ht⟩) hS.2.2 dX4_shrinkBy_98
      · have c_18 : ¬ left ≤ 0 := fun h => c_18 ((lg_cmp_le _ _).mpr h)
        refine lv_lload_n hx hb dX4_shrinkBy_21 rfl (lv_at hl 1 rfl) ?_
        refine lv_aload_n hx hb dX4_shrinkBy_22 rfl (lv_at hl 2 rfl) ?_
        refine sx_get (ci := 4) (C := RX4) (T := TX4) (N := 6) (v := .ref (al 6 j)) hx hb hts inX4 hown hK (c4_at hI hjk) rfl 1 (by decide) (hts _ w_1_33) rfl rfl dX4_shrinkBy_23 ?_
        refine lv_iload hx hb dX4_shrinkBy_26 (lv_at hl 0 rfl) ?_
        refine sx_lald hx hb hK (c6_at hI hjk) 1 rfl (vp_in_nI (show k < 4 by omega) (by decide)) dX4_shrinkBy_28 ?_
        rw [hck]
        refine va_mmin_long hx hb (hml.trans hl.1.symm) hown (hts _ w_2_197) (hts _ w_1_164) (hts _ w_1_12) (hts _ wm_min_long) (Nat.le_of_ble_eq_true rfl) (Nat.le_of_ble_eq_true rfl) (Nat.le_of_ble_eq_true rfl) (Nat.le_of_ble_eq_true rfl) dX4_shrinkBy_29 ?_
        refine lv_lstore (lv' := [(6, .long (if (fL τ 6 j k) < left then (fL τ 6 j k) else left)), (5, .int (nI k)), (3, .long left), (0, .ref (al 4 j))]) hx hb dX4_shrinkBy_32 hl (by decide) rfl (fun ls hl => ?_)
        have hl : lv_has ls 8 [(6, .long (lMin left (fL τ 6 j k))), (5, .int (nI k)), (3, .long left), (0, .ref (al 4 j))] := hl
        refine lv_aload_n hx hb dX4_shrinkBy_34 rfl (lv_at hl 3 rfl) ?_
        refine lv_iload hx hb dX4_shrinkBy_35 (lv_at hl 1 rfl) ?_
        refine lv_aload_n hx hb dX4_shrinkBy_37 rfl (lv_at hl 3 rfl) ?_
        refine sx_get (ci := 4) (C := RX4) (T := TX4) (N := 6) (v := .ref (al 6 j)) hx hb hts inX4 hown hK (c4_at hI hjk) rfl 1 (by decide) (hts _ w_1_33) rfl rfl dX4_shrinkBy_38 ?_
        refine lv_iload hx hb dX4_shrinkBy_41 (lv_at hl 1 rfl) ?_
        refine sx_lald hx hb hK (c6_at hI hjk) 1 rfl (vp_in_nI (show k < 4 by omega) (by decide)) dX4_shrinkBy_43 ?_
        rw [hck]
        refine lv_aload_n hx hb dX4_shrinkBy_44 rfl (lv_at hl 3 rfl) ?_
        refine sx_get (ci := 4) (C := RX4) (T := TX4) (N := 6) (v := .ref (al 6 j)) hx hb hts inX4 hown hK (c4_at hI hjk) rfl 1 (by decide) (hts _ w_1_33) rfl rfl dX4_shrinkBy_45 ?_
        refine lv_iload hx hb dX4_shrinkBy_48 (lv_at hl 1 rfl) ?_
        refine sx_lald hx hb hK (c6_at hI hjk) 1 rfl (vp_in_nI (show k < 4 by omega) (by decide)) dX4_shrinkBy_50 ?_
        rw [hck]
        refine lv_lload hx hb dX4_shrinkBy_51 (lv_at hl 0 rfl) ?_
        refine lv_lsub hx hb dX4_shrinkBy_53 ?_
        refine va_callv (va_runV (As := [.int (nI k), .long (fL τ 6 j k), .long ((fL τ 6 j k) - (lMin left (fL τ 6 j k)))]) (rest := []) ⟨hx, hb, hml, hown, hts⟩ (k_tell l D dA sa lo al τ μ j hjk k g (by omega) hg hgn (fL τ 6 j k) ((fL τ 6 j k) - (lMin left (fL τ 6 j k)))) (cwV 3 hts (gdV w_2_149 w_2_151 wp_7 w_1_2 w_2_152) rfl rfl rfl (by decide +kernel) ⟨Nat.le_of_ble_eq_true rfl, Nat.le_of_ble_eq_true rfl⟩) ⟨iv_bl, sx_recv hK (c4_at hI hjk) rfl, fun U hU hW => ⟨rfl, iv_use hI hwd hS hU hW⟩⟩ rfl rfl hl.1 rfl (lv_room (Nat.le_of_ble_eq_true rfl)) dX4_shrinkBy_54 ⟨Nat.le_of_ble_eq_true rfl, Nat.le_of_ble_eq_true rfl⟩) hS (fun q _ h => h) (fun q h => h) (fun u9 T9 H1 locs ht9 hvm9 e_54 hB9 hz9 hk9 hS => ?_)
        have hI := iv_take ht9 hB9
        clear hB9 hk9
        obtain rfl := e_54
        have hjs : j < nR (rTell τ j k (fL τ 6 j k) (fL τ 6 j k - lMin left (fL τ 6 j k))) := by rw [rTell_N]; exact hjk
        refine lv_aload_n hx hb dX4_shrinkBy_57 rfl (lv_at hl 3 rfl) ?_
        refine sx_get (ci := 4) (C := RX4) (T := TX4) (N := 6) (v := .ref (al 6 j)) hx hb hts inX4 hown hK (c4_at hI hjs) rfl 1 (by decide) (hts _ w_1_33) rfl rfl dX4_shrinkBy_58 ?_
        refine lv_iload hx hb dX4_shrinkBy_61 (lv_at hl 1 rfl) ?_
        refine lv_dup2_11 hx hb dX4_shrinkBy_63 rfl rfl ?_
        refine sx_lald hx hb hK (c6_at hI hjs) 1 rfl (vp_in_nI (show k < 4 by omega) (by decide)) dX4_shrinkBy_64 ?_
        rw [hck]
        refine lv_lload hx hb dX4_shrinkBy_65 (lv_at hl 0 rfl) ?_
        refine lv_lsub hx hb dX4_shrinkBy_67 ?_
        refine sx_last hx hb hK hS (c6_at hI hjs) (c6_lo hI hjs) 1 rfl (vp_in_nI (show k < 4 by omega) (by decide)) dX4_shrinkBy_68 (fun H locs hq => ?_)
        rw [hck] at hq
        have hI := c6_uL (f := k) (v := (fL (rTell τ j k (fL τ 6 j k) ((fL τ 6 j k) - (lMin left (fL τ 6 j k)))) 6 j k) - (lMin left (fL τ 6 j k))) hI hjs hq
        have hS := hq.2.2.2
        refine lv_lload_n hx hb dX4_shrinkBy_69 rfl (lv_at hl 2 rfl) ?_
        refine lv_lload hx hb dX4_shrinkBy_70 (lv_at hl 0 rfl) ?_
        refine lv_lsub hx hb dX4_shrinkBy_72 ?_
        refine lv_lstore_n (lv' := [(3, .long (left - (lMin left (fL τ 6 j k)))), (6, .long (lMin left (fL τ 6 j k))), (5, .int (nI k)), (0, .ref (al 4 j))]) hx hb dX4_shrinkBy_73 rfl hl (by decide) rfl (fun ls hl => ?_)
        refine lv_aload_n hx hb dX4_shrinkBy_74 rfl (lv_at hl 3 rfl) ?_
        refine sx_get (ci := 4) (C := RX4) (T := TX4) (N := 6) (v := .ref (al 6 j)) hx hb hts inX4 hown hK (c4_at hI hjs) rfl 1 (by decide) (hts _ w_1_33) rfl rfl dX4_shrinkBy_75 ?_
        refine lv_iload hx hb dX4_shrinkBy_78 (lv_at hl 2 rfl) ?_
        refine sx_lald hx hb hK (c6_at hI hjs) 1 rfl (vp_in_nI (show k < 4 by omega) (by decide)) dX4_shrinkBy_80 ?_
        rw [hck]
        refine lv_lconst (v := 0) hx hb dX4_shrinkBy_81 (by decide) ?_
        refine W.lcmp hx hb dX4_shrinkBy_82 ?_
        refine lv_if_ne (tgt := 92) hx hb dX4_shrinkBy_83 (by decide) (fun c_83 => ?_) (fun c_83 => ?_)
        · have c_83 : ¬ (fL (uL (rTell τ j k (fL τ 6 j k) ((fL τ 6 j k) - (lMin left (fL τ 6 j k)))) 6 j k ((fL (rTell τ j k (fL τ 6 j k) ((fL τ 6 j k) - (lMin left (fL τ 6 j k)))) 6 j k) - (lMin left (fL τ 6 j k)))) 6 j k) = 0 := fun h => c_83 ((lg_cmp_eq _ _).mpr h)
          refine lv_iinc (v := (nI k) + (-1)) (lv' := [(5, .int ((nI k) + (-1))), (3, .long (left - (lMin left (fL τ 6 j k)))), (6, .long (lMin left (fL τ 6 j k))), (0, .ref (al 4 j))]) hx hb dX4_shrinkBy_92 hl (k := 2) rfl rfl (by decide) rfl (fun ls hl => ?_)
          refine lv_goto (tgt := 10) hx hb dX4_shrinkBy_95 (by decide) ?_
          have e9 : rSh3 (rSh2 (rSh1 τ j k left) j k (lMin left (fL τ 6 j k))) j k = rSh2 (rSh1 τ j k left) j k (lMin left (fL τ 6 j k)) := if_neg c_83
          exact ih (k, left - lMin left (fL τ 6 j k), rSh3 (rSh2 (rSh1 τ j k left) j k (lMin left (fL τ 6 j k))) j k) ls _ _ (Nat.lt_succ_self k) ⟨(by rw [e9]; exact hI), hS, ⟨(by rw [rShr, if_neg c_18] at hk; exact hk), (by omega), rSh_N.trans hNR, rSh_G.trans hNG, rSh_R.trans hFR⟩, (by have h9 := lv_sub hl [0, 1, 3] rfl; rw [i_m1] at h9; exact h9)⟩
        · have c_83 : (fL (uL (rTell τ j k (fL τ 6 j k) ((fL τ 6 j k) - (lMin left (fL τ 6 j k)))) 6 j k ((fL (rTell τ j k (fL τ 6 j k) ((fL τ 6 j k) - (lMin left (fL τ 6 j k)))) 6 j k) - (lMin left (fL τ 6 j k)))) 6 j k) = 0 := (lg_cmp_eq _ _).mp c_83
          refine lv_aload_n hx hb dX4_shrinkBy_86 rfl (lv_at hl 3 rfl) ?_
          refine lv_iload hx hb dX4_shrinkBy_87 (lv_at hl 2 rfl) ?_
          refine sx_put (ci := 4) (v := .int (nI k)) (ty := .int) (C := RX4) (T := TX4) (N := 6) hx hb hts inX4 tyX4 okX4 nmX4 hown hK hS (c4_at hI hjs) (c4_lo hI hjs) rfl 2 (by decide) (hts _ w_1_35) rfl rfl (by decide +kernel) rfl rfl (Nat.le_of_ble_eq_true rfl) dX4_shrinkBy_89 (fun H locs hq => ?_)
          have hI := c4_uI (f := 2) (v := nI k) hI hjs rfl hq
          have hS := hq.2.2.2
          refine lv_iinc (v := (nI k) + (-1)) (lv' := [(5, .int ((nI k) + (-1))), (3, .long (left - (lMin left (fL τ 6 j k)))), (6, .long (lMin left (fL τ 6 j k))), (0, .ref (al 4 j))]) hx hb dX4_shrinkBy_92 hl (k := 2) rfl rfl (by decide) rfl (fun ls hl => ?_)
          refine lv_goto (tgt := 10) hx hb dX4_shrinkBy_95 (by decide) ?_
          have e9 : rSh3 (rSh2 (rSh1 τ j k left) j k (lMin left (fL τ 6 j k))) j k = uI (rSh2 (rSh1 τ j k left) j k (lMin left (fL τ 6 j k))) 4 j 2 (nI k) := if_pos c_83
          exact ih (k, left - lMin left (fL τ 6 j k), rSh3 (rSh2 (rSh1 τ j k left) j k (lMin left (fL τ 6 j k))) j k) ls _ _ (Nat.lt_succ_self k) ⟨(by rw [e9]; exact hI), hS, ⟨(by rw [rShr, if_neg c_18] at hk; exact hk), (by omega), rSh_N.trans hNR, rSh_G.trans hNG, rSh_R.trans hFR⟩, (by have h9 := lv_sub hl [0, 1, 3] rfl; rw [i_m1] at h9; exact h9)⟩

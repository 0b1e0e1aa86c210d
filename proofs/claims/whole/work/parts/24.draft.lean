set_option maxHeartbeats 4000000 in
set_option maxRecDepth 100000 in
theorem k_draftCovers (l : Launch) (D : va_G) (dA : Nat → ClassId) (sa : Nat → Nat) (lo : Nat) (al : Nat → Nat → Nat) (σ μ : CS) (r : Nat) (hrn : r < nR σ) (hd : fR σ 0 0 5 = some r) (h : Nat) (hh : h < 8) (L : List Nat) (hc : Ch σ (fR σ 7 1 h) L) (x : Int64) : Met l yX0_draftCovers wsX0_draftCovers ({ frames := 3, cells := 0, slots := 0, locals := 90 }) (va_Pc [.ref (al 0 0), .int (nI h), .long x] (ivP D dA sa lo al σ μ)) (va_Qi (fun z u => (u, z) = ((dLay (rBeg σ r (nI h) x) r L x 0).1, b2i (dLay (rBeg σ r (nI h) x) r L x 0).2)) (ivB D dA lo al μ) (fun q => lo ≤ q)) 0 0 (fun q => lo ≤ q) := by
  refine Met.ofW (cc := cX0_draftCovers) (maxL := 9) (ret := some .boolean) (by decide) rfl ?_
  intro p e s m args below meth c s₁ B hml hv
  obtain ⟨rfl, hI, hwd⟩ := hv
  have hx := B.exec
  have hb := B.bytes
  have hr := B.returns
  have hts : ∀ w ∈ WSall, w.before _ s = true := fun w h => atoms_spec (ws := wsX0_draftCovers) B.pre w (List.mem_cons_of_mem _ h)
  have hown : s.vm.findClass RX0 = some m.cls := findClass_of_methodNamed B.named
  have hlocks := B.notSynchronized
  have hK := hwd.1
  have hS : va_S (fun q => lo ≤ q) s.heap s.heap [] := va_S.rf
  have hl := lv_entry ([.ref (al 0 0), .int (nI h), .long x]) (n := 9) (Nat.le_of_ble_eq_true rfl)
  rw [lg_entry_eq]
  generalize (lg_sl ([.ref (al 0 0), .int (nI h), .long x]) ++ List.replicate (9 - (lg_sl ([.ref (al 0 0), .int (nI h), .long x])).length) Slot.unset).toArray = ls at hl ⊢
  have hl : lv_has ls 9 [(0, .ref (al 0 0)), (1, .int (nI h)), (2, .long x)] := hl
  have hch8 : (nI h).toNatClampNeg = h := nI_clamp (by omega)
  refine lv_aload_n hx hb dX0_draftCovers_0 rfl (lv_at hl 0 rfl) ?_
  refine sx_get (ci := 0) (C := RX0) (T := TX0) (N := 10) (v := .ref (al 4 r)) hx hb hts inX0 hown hK (c0_at hI) rfl 5 (by decide) (hts _ w_1_64) rfl (congrArg (fun (z : Option Nat) => some (va_rf (Option.map (al 4) z))) hd) dX0_draftCovers_1 ?_
  refine lv_iload_n hx hb dX0_draftCovers_4 rfl (lv_at hl 1 rfl) ?_
  refine lv_lload_n hx hb dX0_draftCovers_5 rfl (lv_at hl 2 rfl) ?_
  refine va_callv (va_runV (As := [.int (nI h), .long x]) (rest := []) ⟨hx, hb, hml, hown, hts⟩ (k_beginFor l D dA sa lo al σ μ r hrn (nI h) x) (cwV 2 hts (gdV w_2_132 w_2_133 w_2_134 w_1_2 w_2_135) rfl rfl rfl (by decide +kernel) ⟨Nat.le_of_ble_eq_true rfl, Nat.le_of_ble_eq_true rfl⟩) ⟨iv_bl, sx_recv hK (c4_at hI hrn) rfl, fun U hU hW => ⟨rfl, iv_use hI hwd hS hU hW⟩⟩ rfl rfl hl.1 rfl (lv_room (Nat.le_of_ble_eq_true rfl)) dX0_draftCovers_6 ⟨Nat.le_of_ble_eq_true rfl, Nat.le_of_ble_eq_true rfl⟩) hS (fun q _ h => h) (fun q h => h) (fun u9 T9 H1 locs ht9 hvm9 e_6 hB9 hz9 hk9 hS => ?_)
  have hI := iv_take ht9 hB9
  clear hB9 hk9
  obtain rfl := e_6
  refine lv_lload_n hx hb dX0_draftCovers_9 rfl (lv_at hl 2 rfl) ?_
  refine lv_lstore (lv' := [(4, .long x), (0, .ref (al 0 0)), (1, .int (nI h)), (2, .long x)]) hx hb dX0_draftCovers_10 hl (by decide) rfl (fun ls hl => ?_)
  have hr0 : r < nR (rBeg σ r (nI h) x) := hrn
  refine lv_aload_n hx hb dX0_draftCovers_12 rfl (lv_at hl 1 rfl) ?_
  refine sx_get (ci := 0) (C := RX0) (T := TX0) (N := 10) (v := .ref (al 7 1)) hx hb hts inX0 hown hK (c0_at hI) rfl 1 (by decide) (hts _ w_1_60) rfl rfl dX0_draftCovers_13 ?_
  refine lv_iload_n hx hb dX0_draftCovers_16 rfl (lv_at hl 2 rfl) ?_
  refine sx_aldq hx hb hK (c7_1_at hI) 3 rfl (vp_in_nI hh (by decide)) dX0_draftCovers_17 ?_
  rw [hch8]
  refine sx_astore (lv' := [(6, va_rf (Option.map (al 1) (fR (rBeg σ r (nI h) x) 7 1 h))), (4, .long x), (0, .ref (al 0 0)), (1, .int (nI h)), (2, .long x)]) hx hb dX0_draftCovers_18 hl (by decide) rfl (fun ls hl => ?_)
  refine w_loop (hd := 20) (stk := []) (X := Option Nat × List Nat × Int64 × Nat × CS) (fun xx => match xx with | (o, t, w, q, τ) => t.length) (fun xx ls H locs => match xx with | (o, t, w, q, τ) => Inv D dA lo al (τ) μ H ∧ va_S (fun q => lo ≤ q) s.heap H locs ∧ (Ch τ o t ∧ dLay τ r t w q = dLay (rBeg σ r (nI h) x) r L x 0 ∧ fI τ 4 r 2 = nI q ∧ q ≤ 4 ∧ r < nR τ ∧ fR τ 0 0 5 = some r) ∧ lv_has ls 9 [(6, va_rf (o.map (al 1))), (4, .long w), (0, .ref (al 0 0))]) (fun xx ls H locs hk ih => ?_) (fR (rBeg σ r (nI h) x) 7 1 h, L, x, 0, rBeg σ r (nI h) x) ls _ _ ⟨hI, hS, ⟨Ch_of (σ := σ) (σ' := rBeg σ r (nI h) x) rfl rfl L _ hc, rfl, rBeg_n, Nat.zero_le _, hrn, hd⟩, lv_sub hl [0, 1, 2] rfl⟩
  obtain ⟨o, t, w, q, τ⟩ := xx
  obtain ⟨hI, hS, hk, hl⟩ := hk
  cases t with
  | nil =>
    obtain ⟨rfl, hk⟩ := hk
    have hl : lv_has ls 9 [(6, .null), (4, .long w), (0, .ref (al 0 0))] := hl
    obtain ⟨hk, hq9, hq4, hr9, hd9⟩ := hk
    refine lv_aloadN hx hb dX0_draftCovers_20 (lv_at hl 0 rfl) ?_
    refine lv_ifnullN (tgt := 84) hx hb dX0_draftCovers_22 (by decide) ?_
    refine lv_lload hx hb dX0_draftCovers_84 (lv_at hl 1 rfl) ?_
    refine lv_lconst (v := 0) hx hb dX0_draftCovers_86 (by decide) ?_
    refine W.lcmp hx hb dX0_draftCovers_87 ?_
    refine lv_if_ne (tgt := 95) hx hb dX0_draftCovers_88 (by decide) (fun c_88 => ?_) (fun c_88 => ?_)
    · have c_88 : ¬ w = 0 := fun h => c_88 ((lg_cmp_eq _ _).mpr h)
      refine lv_iconst (v := 0) hx hb dX0_draftCovers_95 (by decide) ?_
      exact W.zret (v := 0) hx hb hr rfl (fun t ht hW => ⟨⟨0, τ, rfl, (by rw [dLay] at hk; rw [← hk]; simp [b2i, c_88]), iv_give ht hI⟩, hS.F ht⟩) hS.2.2 dX0_draftCovers_96
    · have c_88 : w = 0 := (lg_cmp_eq _ _).mp c_88
      refine lv_iconst (v := 1) hx hb dX0_draftCovers_91 (by decide) ?_
      refine lv_goto (tgt := 96) hx hb dX0_draftCovers_92 (by decide) ?_
      exact W.zret (v := 1) hx hb hr rfl (fun t ht hW => ⟨⟨1, τ, rfl, (by rw [dLay] at hk; rw [← hk]; simp [b2i, c_88]), iv_give ht hI⟩, hS.F ht⟩) hS.2.2 dX0_draftCovers_96
  | cons g t =>
    obtain ⟨⟨rfl, hg, hch⟩, hk⟩ := hk
    have hl : lv_has ls 9 [(6, .ref (al 1 g)), (4, .long w), (0, .ref (al 0 0))] := hl
    obtain ⟨hk, hq9, hq4, hr9, hd9⟩ := hk
    refine lv_aload hx hb dX0_draftCovers_20 (lv_at hl 0 rfl) ?_
    refine lv_ifnull hx hb dX0_draftCovers_22 ?_
    refine lv_lload hx hb dX0_draftCovers_25 (lv_at hl 1 rfl) ?_
    refine lv_lconst (v := 0) hx hb dX0_draftCovers_27 (by decide) ?_
    refine W.lcmp hx hb dX0_draftCovers_28 ?_
    refine lv_if_le (tgt := 84) hx hb dX0_draftCovers_29 (by decide) (fun c_29 => ?_) (fun c_29 => ?_)
    · have c_29 : w ≤ 0 := (lg_cmp_le _ _).mp c_29
      refine lv_lload hx hb dX0_draftCovers_84 (lv_at hl 1 rfl) ?_
      refine lv_lconst (v := 0) hx hb dX0_draftCovers_86 (by decide) ?_
      refine W.lcmp hx hb dX0_draftCovers_87 ?_
      refine lv_if_ne (tgt := 95) hx hb dX0_draftCovers_88 (by decide) (fun c_88 => ?_) (fun c_88 => ?_)
      · have c_88 : ¬ w = 0 := fun h => c_88 ((lg_cmp_eq _ _).mpr h)
        refine lv_iconst (v := 0) hx hb dX0_draftCovers_95 (by decide) ?_
        exact W.zret (v := 0) hx hb hr rfl (fun t ht hW => ⟨⟨0, τ, rfl, (by rw [dLay, if_pos c_29] at hk; rw [← hk]; simp [b2i, c_88]), iv_give ht hI⟩, hS.F ht⟩) hS.2.2 dX0_draftCovers_96
      · have c_88 : w = 0 := (lg_cmp_eq _ _).mp c_88
        refine lv_iconst (v := 1) hx hb dX0_draftCovers_91 (by decide) ?_
        refine lv_goto (tgt := 96) hx hb dX0_draftCovers_92 (by decide) ?_
        exact W.zret (v := 1) hx hb hr rfl (fun t ht hW => ⟨⟨1, τ, rfl, (by rw [dLay, if_pos c_29] at hk; rw [← hk]; simp [b2i, c_88]), iv_give ht hI⟩, hS.F ht⟩) hS.2.2 dX0_draftCovers_96
    · have c_29 : ¬ w ≤ 0 := fun h => c_29 ((lg_cmp_le _ _).mpr h)
      refine lv_lload hx hb dX0_draftCovers_32 (lv_at hl 1 rfl) ?_
      refine lv_aload hx hb dX0_draftCovers_34 (lv_at hl 0 rfl) ?_
      refine vp_callSl (W.runV (As := []) (rest := [.long w]) ⟨hx, hb, hml, hown, hts⟩ (k_mayCover l D dA sa lo al τ μ g hg ) (cwV 0 hts (gdV w_1_146 w_1_147 w_1_148 w_1_9 w_1_149) rfl rfl rfl (by decide +kernel) ⟨Nat.le_of_ble_eq_true rfl, Nat.le_of_ble_eq_true rfl⟩) ⟨iv_bl, sx_recv hK (c1_at hI hg) rfl, fun U hU hW => ⟨rfl, iv_use hI hwd hS hU hW⟩⟩ rfl rfl hl.1 rfl (lv_room (Nat.le_of_ble_eq_true rfl)) dX0_draftCovers_36 ⟨Nat.le_of_ble_eq_true rfl, Nat.le_of_ble_eq_true rfl⟩) (fun r_36 e_36 => ?_)
      subst e_36
      refine va_mmin_long hx hb (hml.trans hl.1.symm) hown (hts _ w_1_163) (hts _ w_1_164) (hts _ w_1_12) (hts _ wm_min_long) (Nat.le_of_ble_eq_true rfl) (Nat.le_of_ble_eq_true rfl) (Nat.le_of_ble_eq_true rfl) (Nat.le_of_ble_eq_true rfl) dX0_draftCovers_39 ?_
      refine lv_lstore (lv' := [(7, .long (if (gMay τ g) < w then (gMay τ g) else w)), (6, .ref (al 1 g)), (4, .long w), (0, .ref (al 0 0))]) hx hb dX0_draftCovers_42 hl (by decide) rfl (fun ls hl => ?_)
      have hl : lv_has ls 9 [(7, .long (lMin w (gMay τ g))), (6, .ref (al 1 g)), (4, .long w), (0, .ref (al 0 0))] := hl
      refine lv_lload hx hb dX0_draftCovers_44 (lv_at hl 0 rfl) ?_
      refine lv_lconst (v := 0) hx hb dX0_draftCovers_46 (by decide) ?_
      refine W.lcmp hx hb dX0_draftCovers_47 ?_
      refine lv_if_le (tgt := 67) hx hb dX0_draftCovers_48 (by decide) (fun c_48 => ?_) (fun c_48 => ?_)
      · have c_48 : (lMin w (gMay τ g)) ≤ 0 := (lg_cmp_le _ _).mp c_48
        refine lv_lload hx hb dX0_draftCovers_67 (lv_at hl 2 rfl) ?_
        refine lv_lload hx hb dX0_draftCovers_69 (lv_at hl 0 rfl) ?_
        refine lv_lsub hx hb dX0_draftCovers_71 ?_
        refine lv_lstore (lv' := [(4, .long (w - (lMin w (gMay τ g)))), (7, .long (lMin w (gMay τ g))), (6, .ref (al 1 g)), (0, .ref (al 0 0))]) hx hb dX0_draftCovers_72 hl (by decide) rfl (fun ls hl => ?_)
        refine lv_aload hx hb dX0_draftCovers_74 (lv_at hl 2 rfl) ?_
        refine sx_getN (ci := 1) (C := RX1) (T := TX1) (N := 11) (v := va_rf (Option.map (al 1) (fR τ 1 g 10))) hx hb hts inX1 hown hK (c1_at hI hg) rfl 10 (by decide) (va_Nw.use rfl (wd_n hwd (.fieldLinkNest "GuaranteeBook" 175 "GuaranteeBook$Guarantee" "next" "LGuaranteeBook$Guarantee;" "GuaranteeBook") (List.mem_of_getElem? (i := 15) rfl))) rfl rfl dX0_draftCovers_76 ?_
        refine sx_astore (lv' := [(6, va_rf (Option.map (al 1) (fR τ 1 g 10))), (4, .long (w - (lMin w (gMay τ g)))), (7, .long (lMin w (gMay τ g))), (0, .ref (al 0 0))]) hx hb dX0_draftCovers_79 hl (by decide) rfl (fun ls hl => ?_)
        refine lv_goto (tgt := 20) hx hb dX0_draftCovers_81 (by decide) ?_
        exact ih (fR τ 1 g 10, t, w - (lMin w (gMay τ g)), q, τ) ls _ _ (by simp only [List.length_cons]; omega) ⟨hI, hS, ⟨hch, (by rw [dLay, if_neg c_29, if_pos c_48] at hk; exact ⟨hk, hq9, hq4, hr9, hd9⟩)⟩, lv_sub hl [0, 1, 3] rfl⟩
      · have c_48 : ¬ (lMin w (gMay τ g)) ≤ 0 := fun h => c_48 ((lg_cmp_le _ _).mpr h)
        refine lv_aload_n hx hb dX0_draftCovers_51 rfl (lv_at hl 3 rfl) ?_
        refine sx_get (ci := 0) (C := RX0) (T := TX0) (N := 10) (v := .ref (al 4 r)) hx hb hts inX0 hown hK (c0_at hI) rfl 5 (by decide) (hts _ w_1_64) rfl (congrArg (fun (z : Option Nat) => some (va_rf (Option.map (al 4) z))) hd9) dX0_draftCovers_52 ?_
        refine lv_aload hx hb dX0_draftCovers_55 (lv_at hl 1 rfl) ?_
        refine lv_lload hx hb dX0_draftCovers_57 (lv_at hl 0 rfl) ?_
        refine va_calli (va_runV (As := [.ref (al 1 g), .long (lMin w (gMay τ g))]) (rest := []) ⟨hx, hb, hml, hown, hts⟩ (k_addPart l D dA sa lo al τ μ r hr9 g q hg hq9 hq4 (lMin w (gMay τ g))) (cwV 2 hts (gdV w_2_136 w_2_137 w_2_138 w_1_2 w_2_139) rfl rfl rfl (by decide +kernel) ⟨Nat.le_of_ble_eq_true rfl, Nat.le_of_ble_eq_true rfl⟩) ⟨iv_bl, sx_recv hK (c4_at hI hr9) rfl, fun U hU hW => ⟨rfl, iv_use hI hwd hS hU hW⟩⟩ rfl rfl hl.1 rfl (lv_room (Nat.le_of_ble_eq_true rfl)) dX0_draftCovers_59 ⟨Nat.le_of_ble_eq_true rfl, Nat.le_of_ble_eq_true rfl⟩) hS (fun q _ h => h) (fun q h => h) (fun r_59 u9 T9 H1 locs ht9 hvm9 e_59 hB9 hz9 hk9 hS => ?_)
        have hI := iv_take ht9 hB9
        clear hB9 hk9
        have ha := e_59
        by_cases h4 : q < 4
        · obtain ⟨rfl, rfl⟩ := Eq.mp (if_pos h4) ha
          have hr9 : r < nR (rAdd τ r q g (lMin w (gMay τ g))) := hr9
          refine lv_if_ne (tgt := 67) hx hb dX0_draftCovers_62 (by decide) (fun c_62 => ?_) (fun c_62 => ?_)
          · refine lv_lload hx hb dX0_draftCovers_67 (lv_at hl 2 rfl) ?_
            refine lv_lload hx hb dX0_draftCovers_69 (lv_at hl 0 rfl) ?_
            refine lv_lsub hx hb dX0_draftCovers_71 ?_
            refine lv_lstore (lv' := [(4, .long (w - (lMin w (gMay τ g)))), (7, .long (lMin w (gMay τ g))), (6, .ref (al 1 g)), (0, .ref (al 0 0))]) hx hb dX0_draftCovers_72 hl (by decide) rfl (fun ls hl => ?_)
            refine lv_aload hx hb dX0_draftCovers_74 (lv_at hl 2 rfl) ?_
            refine sx_getN (ci := 1) (C := RX1) (T := TX1) (N := 11) (v := va_rf (Option.map (al 1) (fR (rAdd τ r q g (lMin w (gMay τ g))) 1 g 10))) hx hb hts inX1 hown hK (c1_at hI hg) rfl 10 (by decide) (va_Nw.use rfl (wd_n hwd (.fieldLinkNest "GuaranteeBook" 175 "GuaranteeBook$Guarantee" "next" "LGuaranteeBook$Guarantee;" "GuaranteeBook") (List.mem_of_getElem? (i := 15) rfl))) rfl rfl dX0_draftCovers_76 ?_
            refine sx_astore (lv' := [(6, va_rf (Option.map (al 1) (fR (rAdd τ r q g (lMin w (gMay τ g))) 1 g 10))), (4, .long (w - (lMin w (gMay τ g)))), (7, .long (lMin w (gMay τ g))), (0, .ref (al 0 0))]) hx hb dX0_draftCovers_79 hl (by decide) rfl (fun ls hl => ?_)
            refine lv_goto (tgt := 20) hx hb dX0_draftCovers_81 (by decide) ?_
            exact ih (fR (rAdd τ r q g (lMin w (gMay τ g))) 1 g 10, t, w - (lMin w (gMay τ g)), q + 1, rAdd τ r q g (lMin w (gMay τ g))) ls _ _ (by simp only [List.length_cons]; omega) ⟨hI, hS, ⟨(Ch_of (rAdd_R1 (by decide)) rfl t _ hch), (by rw [dLay, if_neg c_29, if_neg c_48, if_pos h4] at hk; exact ⟨hk, rAdd_n, h4, hr9, (by rw [rAdd_R1 (by decide)]; exact hd9)⟩)⟩, lv_sub hl [0, 1, 3] rfl⟩
          · exact absurd c_62 (by decide)
        · obtain ⟨rfl, hu9⟩ := Eq.mp (if_neg h4) ha
          rw [hu9] at hI
          refine lv_if_ne (tgt := 67) hx hb dX0_draftCovers_62 (by decide) (fun c_62 => ?_) (fun c_62 => ?_)
          · exact absurd (by decide) c_62
          · refine lv_iconst (v := 0) hx hb dX0_draftCovers_65 (by decide) ?_
            exact W.zret (v := 0) hx hb hr rfl (fun t ht hW => ⟨⟨0, τ, rfl, (by rw [dLay, if_neg c_29, if_neg c_48, if_neg h4] at hk; rw [← hk]; rfl), iv_give ht hI⟩, hS.F ht⟩) hS.2.2 dX0_draftCovers_66

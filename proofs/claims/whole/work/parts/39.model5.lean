set_option maxHeartbeats 4000000 in
set_option maxRecDepth 100000 in
theorem m_first (l : Launch) (D : va_G) (dA : Nat → ClassId) (sa : Nat → Nat) (lo : Nat) (al : Nat → Nat → Nat) (σ μ : CS) (x : Int32) (n r : Nat) (hw : WFm μ n r) (O : List Nat) (hO : Or μ n O) (hall : ∀ g, g < n → ∃ A B, O = A ++ g :: B ∧ g ∉ A) : Met l yX5_first wsX5_first ({ frames := 1, cells := 0, slots := 0, locals := 30 }) (va_Pc [.ref (al 8 0), .int x] (ivP D dA sa lo al σ μ)) (va_Qi (fun z9 u => (z9, u) = cFirstM μ n O x) (ivM D dA lo al σ) (fun q => lo ≤ q)) 0 0 (fun q => lo ≤ q) := by
  refine Met.ofW (cc := cX5_first) (maxL := 5) (ret := some .boolean) (by decide) rfl ?_
  intro p e s m args below meth c s₁ B hml hv
  obtain ⟨rfl, hI, hwd⟩ := hv
  have hx := B.exec
  have hb := B.bytes
  have hr := B.returns
  have hts : ∀ w ∈ WSall, w.before _ s = true := fun w h => atoms_spec (ws := wsX5_first) B.pre w (List.mem_cons_of_mem _ h)
  have hown : s.vm.findClass RX5 = some m.cls := findClass_of_methodNamed B.named
  have hlocks := B.notSynchronized
  have hK := hwd.1
  have hS : va_S (fun q => lo ≤ q) s.heap s.heap [] := va_S.rf
  have hl := lv_entry ([.ref (al 8 0), .int x]) (n := 5) (Nat.le_of_ble_eq_true rfl)
  rw [lg_entry_eq]
  generalize (lg_sl ([.ref (al 8 0), .int x]) ++ List.replicate (5 - (lg_sl ([.ref (al 8 0), .int x])).length) Slot.unset).toArray = ls at hl ⊢
  have hl : lv_has ls 5 [(0, .ref (al 8 0)), (1, .int x)] := hl
  obtain ⟨hn20, hr60, hgn, hrn, hor, hpt, hpr, hdn⟩ := id hw
  refine lv_aload_n hx hb dX5_first_0 rfl (lv_at hl 0 rfl) ?_
  refine lv_iconst (v := 0) hx hb dX5_first_1 (by decide) ?_
  refine sx_put (ci := 5) (v := .int 0) (ty := .int) (C := RX5) (T := TX5) (N := 24) hx hb hts inX5 tyX5 okX5 nmX5 hown hK hS (c8_at hI) (c8_lo hI) rfl 0 (by decide) (hts _ w_3_36) rfl rfl (by decide +kernel) rfl rfl (Nat.le_of_ble_eq_true rfl) dX5_first_2 (fun H locs hq => ?_)
  have hI := c8_uI (f := 0) (v := 0) hI rfl hq
  have hS := hq.2.2.2
  refine lv_aload_n hx hb dX5_first_5 rfl (lv_at hl 0 rfl) ?_
  refine lv_iload_n hx hb dX5_first_6 rfl (lv_at hl 1 rfl) ?_
  refine vp_callSi (W.runV (As := [.int x]) (rest := []) ⟨hx, hb, hml, hown, hts⟩ (m_isGuarantee l D dA sa lo al σ (uI μ 8 0 0 0) x) (cwV 1 hts (gdV w_3_138 w_3_140 wp_11 w_1_3 w_3_141) rfl rfl rfl (by decide +kernel) ⟨Nat.le_of_ble_eq_true rfl, Nat.le_of_ble_eq_true rfl⟩) ⟨iv_bl, sx_recv hK (c8_at hI) rfl, fun U hU hW => ⟨rfl, iv_use hI hwd hS hU hW⟩⟩ rfl rfl hl.1 rfl (lv_room (Nat.le_of_ble_eq_true rfl)) dX5_first_7 ⟨Nat.le_of_ble_eq_true rfl, Nat.le_of_ble_eq_true rfl⟩) (fun r_7 e_7 => ?_)
  subst e_7
  refine lv_if_ne (tgt := 15) hx hb dX5_first_10 (by decide) (fun c_10 => ?_) (fun c_10 => ?_)
  · have c_10 := bp_n0.mp c_10
    obtain ⟨i, hi, ex, hix⟩ := pNum_ix hgn (by omega) c_10
    subst ex
    have hcx : (nI (i + 1)).toNatClampNeg = i + 1 := nI_clamp (by omega)
    have hvx : vp_in (nI (i + 1)) 21 := vp_in_nI (by omega) (by decide)
    have hl : lv_has ls 5 [(0, .ref (al 8 0)), (1, .int (nI (i + 1)))] := hl
    obtain ⟨A, B, hAB, hnA⟩ := hall i hi
    have htw : O.takeWhile (fun a => a != i) = A := by rw [hAB]; exact tw_pre hnA
    have hAn : A.length < n := by
      have h1 := hO.1
      rw [hAB] at h1
      simp only [List.length_append, List.length_cons] at h1
      omega
    refine lv_iconst (v := 0) hx hb dX5_first_15 (by decide) ?_
    refine lv_istore_n (lv' := [(2, .int 0), (0, .ref (al 8 0)), (1, .int (nI (i + 1)))]) hx hb dX5_first_16 rfl hl (by decide) rfl (fun ls hl => ?_)
    refine lv_iconst (v := 0) hx hb dX5_first_17 (by decide) ?_
    refine lv_istore_n (lv' := [(3, .int 0), (2, .int 0), (0, .ref (al 8 0)), (1, .int (nI (i + 1)))]) hx hb dX5_first_18 rfl hl (by decide) rfl (fun ls hl => ?_)
    refine w_loopP (hd := 19) (stk := []) (X := List Nat × List Nat) (fun xx => match xx with | (A1, t) => t.length) (fun xx ls => match xx with | (A1, t) => A = A1 ++ t ∧ lv_has ls 5 [(3, .int (b2i (mAny μ i A1))), (2, .int (nI A1.length)), (1, .int (nI (i + 1))), (0, .ref (al 8 0))]) (fun xx ls hk ih => ?_) ([], A) ls ⟨rfl, lv_sub hl [0, 1, 3, 2] rfl⟩
    obtain ⟨A1, t⟩ := xx
    obtain ⟨hA, hl⟩ := hk
    cases t with
    | nil =>
      have hl : lv_has ls 5 [(3, .int (b2i (mAny μ i A1))), (2, .int (nI A1.length)), (1, .int (nI (i + 1))), (0, .ref (al 8 0))] := hl
      rw [List.append_nil] at hA
      subst hA
      have hog := (hO.2 A.length i (by rw [hAB]; exact ap_at0)).2
      have hck : (nI A.length).toNatClampNeg = A.length := nI_clamp (by omega)
      have hvk : vp_in (nI A.length) 20 := vp_in_nI (by omega) (by decide)
      refine lv_aload_n hx hb dX5_first_19 rfl (lv_at hl 3 rfl) ?_
      refine sx_get (ci := 5) (C := RX5) (T := TX5) (N := 24) (v := .ref (al 9 11)) hx hb hts inX5 hown hK (c8_at hI) rfl 14 (by decide) (hts _ w_3_50) rfl rfl dX5_first_20 ?_
      refine lv_iload_n hx hb dX5_first_23 rfl (lv_at hl 1 rfl) ?_
      refine sx_iald hx hb hK (c9_11_at hI) 0 rfl hvk dX5_first_24 ?_
      rw [hck]
      refine W.eq (g2 := F0 m 25 ls (.int (fI μ 9 11 A.length) :: [])) rfl ?_
      refine lv_iload_n hx hb dX5_first_25 rfl (lv_at hl 2 rfl) ?_
      refine lv_icmp_eq (tgt := 65) hx hb dX5_first_26 (by decide) (fun c_26 => ?_) (fun c_26 => ?_)
      · cases hb9 : mAny μ i A with
        | false =>
          rw [hb9] at hl
          have hl : lv_has ls 5 [(3, .int 0), (2, .int (nI A.length)), (1, .int (nI (i + 1))), (0, .ref (al 8 0))] := hl
          refine lv_iload_n hx hb dX5_first_65 rfl (lv_at hl 1 rfl) ?_
          refine lv_istore (lv' := [(4, .int (nI A.length)), (3, .int 0), (2, .int (nI A.length)), (1, .int (nI (i + 1))), (0, .ref (al 8 0))]) hx hb dX5_first_66 hl (by decide) rfl (fun ls hl => ?_)
          refine lv_iload hx hb dX5_first_68 (lv_at hl 0 rfl) ?_
          refine lv_if_le (tgt := 99) hx hb dX5_first_70 (by decide) (fun c_70 => ?_) (fun c_70 => ?_)
          · refine lv_aload_n hx hb dX5_first_99 rfl (lv_at hl 4 rfl) ?_
            refine sx_get (ci := 5) (C := RX5) (T := TX5) (N := 24) (v := .ref (al 9 11)) hx hb hts inX5 hown hK (c8_at hI) rfl 14 (by decide) (hts _ w_3_50) rfl rfl dX5_first_100 ?_
            refine lv_iload_n hx hb dX5_first_103 rfl (lv_at hl 1 rfl) ?_
            refine lv_if_eq (tgt := 111) hx hb dX5_first_104 (by decide) (fun c_104 => ?_) (fun c_104 => ?_)
            · refine lv_iload_n hx hb dX5_first_111 rfl (lv_at hl 2 rfl) ?_
              refine lv_iload_n hx hb dX5_first_112 rfl (lv_at hl 3 rfl) ?_
              refine sx_iast hx hb hK hS (c9_11_at hI) (c9_11_lo hI) 0 rfl hvk dX5_first_113 (fun H locs hq => ?_)
              rw [hck] at hq
              have hI := c9_11_uI (f := A.length) (v := nI (i + 1)) hI hq
              have hS := hq.2.2.2
              refine lv_iload_n hx hb dX5_first_114 rfl (lv_at hl 1 rfl) ?_
              exact W.zret (v := 0) hx hb hr rfl (fun t ht hW => ⟨⟨0, uI (uI μ 8 0 0 0) 9 11 A.length (nI (i + 1)), rfl, (by unfold cFirstM; rw [hix]; simp only []; rw [htw]; unfold cFirM; rw [if_neg (by rw [hb9]; decide)]), iv_giveM ht hI⟩, hS.F ht⟩) hS.2.2 dX5_first_115
            · exact absurd (by decide) c_104
          · refine lv_iload_n hx hb dX5_first_73 rfl (lv_at hl 1 rfl) ?_
            refine lv_if_eq (tgt := 99) hx hb dX5_first_74 (by decide) (fun c_74 => ?_) (fun c_74 => ?_)
            · refine lv_aload_n hx hb dX5_first_99 rfl (lv_at hl 4 rfl) ?_
              refine sx_get (ci := 5) (C := RX5) (T := TX5) (N := 24) (v := .ref (al 9 11)) hx hb hts inX5 hown hK (c8_at hI) rfl 14 (by decide) (hts _ w_3_50) rfl rfl dX5_first_100 ?_
              refine lv_iload_n hx hb dX5_first_103 rfl (lv_at hl 1 rfl) ?_
              refine lv_if_eq (tgt := 111) hx hb dX5_first_104 (by decide) (fun c_104 => ?_) (fun c_104 => ?_)
              · refine lv_iload_n hx hb dX5_first_111 rfl (lv_at hl 2 rfl) ?_
                refine lv_iload_n hx hb dX5_first_112 rfl (lv_at hl 3 rfl) ?_
                refine sx_iast hx hb hK hS (c9_11_at hI) (c9_11_lo hI) 0 rfl hvk dX5_first_113 (fun H locs hq => ?_)
                rw [hck] at hq
                have hI := c9_11_uI (f := A.length) (v := nI (i + 1)) hI hq
                have hS := hq.2.2.2
                refine lv_iload_n hx hb dX5_first_114 rfl (lv_at hl 1 rfl) ?_
                exact W.zret (v := 0) hx hb hr rfl (fun t ht hW => ⟨⟨0, uI (uI μ 8 0 0 0) 9 11 A.length (nI (i + 1)), rfl, (by unfold cFirstM; rw [hix]; simp only []; rw [htw]; unfold cFirM; rw [if_neg (by rw [hb9]; decide)]), iv_giveM ht hI⟩, hS.F ht⟩) hS.2.2 dX5_first_115
              · exact absurd (by decide) c_104
            · exact absurd (by decide) c_74
        | true =>
          rw [hb9] at hl
          have hl : lv_has ls 5 [(3, .int 1), (2, .int (nI A.length)), (1, .int (nI (i + 1))), (0, .ref (al 8 0))] := hl
          refine lv_iload_n hx hb dX5_first_65 rfl (lv_at hl 1 rfl) ?_
          refine lv_istore (lv' := [(4, .int (nI A.length)), (3, .int 1), (2, .int (nI A.length)), (1, .int (nI (i + 1))), (0, .ref (al 8 0))]) hx hb dX5_first_66 hl (by decide) rfl (fun ls hl => ?_)
          refine w_loop (hd := 68) (stk := []) (X := Nat × CS) (fun xx => match xx with | (q, τ) => q) (fun xx ls H locs => match xx with | (q, τ) => Inv D dA lo al σ τ H ∧ va_S (fun q => lo ≤ q) s.heap H locs ∧ (mShift q τ = mShift A.length (uI μ 8 0 0 0) ∧ q ≤ A.length) ∧ lv_has ls 5 [(4, .int (nI q)), (3, .int 1), (2, .int (nI A.length)), (1, .int (nI (i + 1))), (0, .ref (al 8 0))]) (fun xx ls H locs hk ih => ?_) (A.length, uI μ 8 0 0 0) ls _ _ ⟨hI, hS, ⟨rfl, Nat.le_refl _⟩, lv_sub hl [0, 1, 2, 3, 4] rfl⟩
          obtain ⟨q, τ⟩ := xx
          obtain ⟨hI, hS, ⟨hk, hqA⟩, hl⟩ := hk
          cases q with
          | zero =>
            have hl : lv_has ls 5 [(4, .int (nI 0)), (3, .int 1), (2, .int (nI A.length)), (1, .int (nI (i + 1))), (0, .ref (al 8 0))] := hl
            refine lv_iload hx hb dX5_first_68 (lv_at hl 0 rfl) ?_
            refine lv_if_le (tgt := 99) hx hb dX5_first_70 (by decide) (fun c_70 => ?_) (fun c_70 => ?_)
            · refine lv_aload_n hx hb dX5_first_99 rfl (lv_at hl 4 rfl) ?_
              refine sx_get (ci := 5) (C := RX5) (T := TX5) (N := 24) (v := .ref (al 9 11)) hx hb hts inX5 hown hK (c8_at hI) rfl 14 (by decide) (hts _ w_3_50) rfl rfl dX5_first_100 ?_
              refine lv_iload_n hx hb dX5_first_103 rfl (lv_at hl 1 rfl) ?_
              refine lv_if_eq (tgt := 111) hx hb dX5_first_104 (by decide) (fun c_104 => ?_) (fun c_104 => ?_)
              · exact absurd c_104 (by decide)
              · refine lv_iconst (v := 0) hx hb dX5_first_107 (by decide) ?_
                refine lv_goto (tgt := 112) hx hb dX5_first_108 (by decide) ?_
                refine lv_iload_n hx hb dX5_first_112 rfl (lv_at hl 3 rfl) ?_
                refine sx_iast hx hb hK hS (c9_11_at hI) (c9_11_lo hI) 0 rfl (show vp_in 0 20 from vp_in_nI (n := 0) (by decide) (by decide)) dX5_first_113 (fun H locs hq => ?_)
                rw [show (0 : Int32).toNatClampNeg = 0 from rfl] at hq
                have hI := c9_11_uI (f := 0) (v := nI (i + 1)) hI hq
                have hS := hq.2.2.2
                refine lv_iload_n hx hb dX5_first_114 rfl (lv_at hl 1 rfl) ?_
                exact W.zret (v := 1) hx hb hr rfl (fun t ht hW => ⟨⟨1, uI τ 9 11 0 (nI (i + 1)), rfl, (by unfold cFirstM; rw [hix]; simp only []; rw [htw]; unfold cFirM; rw [if_pos hb9, ← hk] <;> rfl), iv_giveM ht hI⟩, hS.F ht⟩) hS.2.2 dX5_first_115
            · exact absurd (by decide) c_70
          | succ q =>
            have hl : lv_has ls 5 [(4, .int (nI (q + 1))), (3, .int 1), (2, .int (nI A.length)), (1, .int (nI (i + 1))), (0, .ref (al 8 0))] := hl
            have hcq : (nI (q + 1)).toNatClampNeg = q + 1 := nI_clamp (by omega)
            have hvq : vp_in (nI (q + 1)) 20 := vp_in_nI (by omega) (by decide)
            have hcq0 : (nI q).toNatClampNeg = q := nI_clamp (by omega)
            have hvq0 : vp_in (nI q) 20 := vp_in_nI (by omega) (by decide)
            refine lv_iload hx hb dX5_first_68 (lv_at hl 0 rfl) ?_
            refine lv_if_le (tgt := 99) hx hb dX5_first_70 (by decide) (fun c_70 => ?_) (fun c_70 => ?_)
            · exact absurd c_70 (nI_nle (by omega) (by omega))
            · refine lv_iload_n hx hb dX5_first_73 rfl (lv_at hl 1 rfl) ?_
              refine lv_if_eq (tgt := 99) hx hb dX5_first_74 (by decide) (fun c_74 => ?_) (fun c_74 => ?_)
              · exact absurd c_74 (by decide)
              · refine lv_aload_n hx hb dX5_first_77 rfl (lv_at hl 4 rfl) ?_
                refine sx_get (ci := 5) (C := RX5) (T := TX5) (N := 24) (v := .ref (al 9 11)) hx hb hts inX5 hown hK (c8_at hI) rfl 14 (by decide) (hts _ w_3_50) rfl rfl dX5_first_78 ?_
                refine lv_iload hx hb dX5_first_81 (lv_at hl 0 rfl) ?_
                refine lv_aload_n hx hb dX5_first_83 rfl (lv_at hl 4 rfl) ?_
                refine sx_get (ci := 5) (C := RX5) (T := TX5) (N := 24) (v := .ref (al 9 11)) hx hb hts inX5 hown hK (c8_at hI) rfl 14 (by decide) (hts _ w_3_50) rfl rfl dX5_first_84 ?_
                refine lv_iload hx hb dX5_first_87 (lv_at hl 0 rfl) ?_
                refine lv_iconst (v := 1) hx hb dX5_first_89 (by decide) ?_
                refine lv_isub hx hb dX5_first_90 ?_
                refine W.eq (g2 := F0 m 91 ls (.int (nI q) :: [.ref (al 9 11), .int (nI (q + 1)), .ref (al 9 11)])) (by rw [nI_pred]) ?_
                refine sx_iald hx hb hK (c9_11_at hI) 0 rfl hvq0 dX5_first_91 ?_
                rw [hcq0]
                refine sx_iast hx hb hK hS (c9_11_at hI) (c9_11_lo hI) 0 rfl hvq dX5_first_92 (fun H locs hq => ?_)
                rw [hcq] at hq
                have hI := c9_11_uI (f := q + 1) (v := fI τ 9 11 q) hI hq
                have hS := hq.2.2.2
                refine lv_iinc (v := (nI (q + 1)) + (-1)) (lv' := [(4, .int ((nI (q + 1)) + (-1))), (3, .int 1), (2, .int (nI A.length)), (1, .int (nI (i + 1))), (0, .ref (al 8 0))]) hx hb dX5_first_93 hl (k := 0) rfl rfl (by decide) rfl (fun ls hl => ?_)
                refine lv_goto (tgt := 68) hx hb dX5_first_96 (by decide) ?_
                exact ih (q, uI τ 9 11 (q + 1) (fI τ 9 11 q)) ls _ _ (Nat.lt_succ_self q) ⟨hI, hS, ⟨hk, (by omega)⟩, (by have h9 := lv_sub hl [0, 1, 2, 3, 4] rfl; rw [pk_m1] at h9; exact h9)⟩
      · exact absurd hog c_26
    | cons a t =>
      have hl : lv_has ls 5 [(3, .int (b2i (mAny μ i A1))), (2, .int (nI A1.length)), (1, .int (nI (i + 1))), (0, .ref (al 8 0))] := hl
      have hA1 : A1.length < A.length := by rw [hA]; simp
      obtain ⟨han, hog⟩ := hO.2 A1.length a (by rw [hAB, hA]; exact ap_at)
      have hne : a ≠ i := fun e => hnA (by rw [hA, e]; simp)
      have hck : (nI A1.length).toNatClampNeg = A1.length := nI_clamp (by omega)
      have hvk : vp_in (nI A1.length) 20 := vp_in_nI (by omega) (by decide)
      have hcg : (fI μ 9 11 A1.length).toNatClampNeg = a + 1 := by rw [hog]; exact nI_clamp (by omega)
      have hvg : vp_in (fI μ 9 11 A1.length) 21 := by rw [hog]; exact vp_in_nI (by omega) (by decide)
      refine lv_aload_n hx hb dX5_first_19 rfl (lv_at hl 3 rfl) ?_
      refine sx_get (ci := 5) (C := RX5) (T := TX5) (N := 24) (v := .ref (al 9 11)) hx hb hts inX5 hown hK (c8_at hI) rfl 14 (by decide) (hts _ w_3_50) rfl rfl dX5_first_20 ?_
      refine lv_iload_n hx hb dX5_first_23 rfl (lv_at hl 1 rfl) ?_
      refine sx_iald hx hb hK (c9_11_at hI) 0 rfl hvk dX5_first_24 ?_
      rw [hck]
      refine W.eq (g2 := F0 m 25 ls (.int (fI μ 9 11 A1.length) :: [])) rfl ?_
      refine lv_iload_n hx hb dX5_first_25 rfl (lv_at hl 2 rfl) ?_
      refine lv_icmp_eq (tgt := 65) hx hb dX5_first_26 (by decide) (fun c_26 => ?_) (fun c_26 => ?_)
      · exact absurd ((nI_eq (by omega) (by omega)).mp (hog.symm.trans c_26)) (by omega)
      · refine lv_iload_n hx hb dX5_first_29 rfl (lv_at hl 0 rfl) ?_
        refine lv_if_ne (tgt := 53) hx hb dX5_first_30 (by decide) (fun c_30 => ?_) (fun c_30 => ?_)
        · have c_30 := b2i_n0.mp c_30
          refine lv_iconst (v := 1) hx hb dX5_first_53 (by decide) ?_
          refine lv_goto (tgt := 58) hx hb dX5_first_54 (by decide) ?_
          refine W.eq (g2 := F0 m 58 ls (.int (b2i (mAny μ i (A1 ++ [a]))) :: [])) (by rw [mAny_snoc, c_30]; rfl) ?_
          have hsn : (A1 ++ [a]).length = A1.length + 1 := by simp
          refine lv_istore_n (lv' := [(3, .int (b2i (mAny μ i (A1 ++ [a])))), (2, .int (nI A1.length)), (1, .int (nI (i + 1))), (0, .ref (al 8 0))]) hx hb dX5_first_58 rfl hl (by decide) rfl (fun ls hl => ?_)
          refine lv_iinc (v := (nI A1.length) + 1) (lv' := [(2, .int ((nI A1.length) + 1)), (3, .int (b2i (mAny μ i (A1 ++ [a])))), (1, .int (nI (i + 1))), (0, .ref (al 8 0))]) hx hb dX5_first_59 hl (k := 1) rfl rfl (by decide) rfl (fun ls hl => ?_)
          refine lv_goto (tgt := 19) hx hb dX5_first_62 (by decide) ?_
          exact ih (A1 ++ [a], t) ls (by simp only [List.length_cons]; omega) ⟨(by rw [hA]; simp), (by have h9 := lv_sub hl [1, 0, 2, 3] rfl; rw [nI_1, ← hsn] at h9; exact h9)⟩
        · have c_30 := b2i_0.mp c_30
          refine lv_aload_n hx hb dX5_first_33 rfl (lv_at hl 3 rfl) ?_
          refine sx_get (ci := 5) (C := RX5) (T := TX5) (N := 24) (v := .ref (al 9 0)) hx hb hts inX5 hown hK (c8_at hI) rfl 3 (by decide) (hts _ w_3_39) rfl rfl dX5_first_34 ?_
          refine lv_aload_n hx hb dX5_first_37 rfl (lv_at hl 3 rfl) ?_
          refine sx_get (ci := 5) (C := RX5) (T := TX5) (N := 24) (v := .ref (al 9 11)) hx hb hts inX5 hown hK (c8_at hI) rfl 14 (by decide) (hts _ w_3_50) rfl rfl dX5_first_38 ?_
          refine lv_iload_n hx hb dX5_first_41 rfl (lv_at hl 1 rfl) ?_
          refine sx_iald hx hb hK (c9_11_at hI) 0 rfl hvk dX5_first_42 ?_
          rw [hck]
          refine W.eq (g2 := F0 m 43 ls (.int (fI μ 9 11 A1.length) :: [.ref (al 9 0)])) rfl ?_
          refine sx_iald hx hb hK (c9_0_at hI) 0 rfl hvg dX5_first_43 ?_
          rw [hcg]
          refine W.eq (g2 := F0 m 44 ls (.int (fI μ 9 0 (a + 1)) :: [])) rfl ?_
          refine lv_aload_n hx hb dX5_first_44 rfl (lv_at hl 3 rfl) ?_
          refine sx_get (ci := 5) (C := RX5) (T := TX5) (N := 24) (v := .ref (al 9 0)) hx hb hts inX5 hown hK (c8_at hI) rfl 3 (by decide) (hts _ w_3_39) rfl rfl dX5_first_45 ?_
          refine lv_iload_n hx hb dX5_first_48 rfl (lv_at hl 2 rfl) ?_
          refine sx_iald hx hb hK (c9_0_at hI) 0 rfl hvx dX5_first_49 ?_
          rw [hcx]
          refine W.eq (g2 := F0 m 50 ls (.int (fI μ 9 0 (i + 1)) :: [.int (fI μ 9 0 (a + 1))])) rfl ?_
          refine lv_icmp_ne (tgt := 57) hx hb dX5_first_50 (by decide) (fun c_50 => ?_) (fun c_50 => ?_)
          · refine lv_iconst (v := 0) hx hb dX5_first_57 (by decide) ?_
            refine W.eq (g2 := F0 m 58 ls (.int (b2i (mAny μ i (A1 ++ [a]))) :: [])) (by rw [mAny_snoc, Bool.eq_false_iff.mpr c_30, decide_eq_false c_50]; rfl) ?_
            have hsn : (A1 ++ [a]).length = A1.length + 1 := by simp
            refine lv_istore_n (lv' := [(3, .int (b2i (mAny μ i (A1 ++ [a])))), (2, .int (nI A1.length)), (1, .int (nI (i + 1))), (0, .ref (al 8 0))]) hx hb dX5_first_58 rfl hl (by decide) rfl (fun ls hl => ?_)
            refine lv_iinc (v := (nI A1.length) + 1) (lv' := [(2, .int ((nI A1.length) + 1)), (3, .int (b2i (mAny μ i (A1 ++ [a])))), (1, .int (nI (i + 1))), (0, .ref (al 8 0))]) hx hb dX5_first_59 hl (k := 1) rfl rfl (by decide) rfl (fun ls hl => ?_)
            refine lv_goto (tgt := 19) hx hb dX5_first_62 (by decide) ?_
            exact ih (A1 ++ [a], t) ls (by simp only [List.length_cons]; omega) ⟨(by rw [hA]; simp), (by have h9 := lv_sub hl [1, 0, 2, 3] rfl; rw [nI_1, ← hsn] at h9; exact h9)⟩
          · refine lv_iconst (v := 1) hx hb dX5_first_53 (by decide) ?_
            refine lv_goto (tgt := 58) hx hb dX5_first_54 (by decide) ?_
            refine W.eq (g2 := F0 m 58 ls (.int (b2i (mAny μ i (A1 ++ [a]))) :: [])) (by rw [mAny_snoc, decide_eq_true c_50, Bool.or_true]; rfl) ?_
            have hsn : (A1 ++ [a]).length = A1.length + 1 := by simp
            refine lv_istore_n (lv' := [(3, .int (b2i (mAny μ i (A1 ++ [a])))), (2, .int (nI A1.length)), (1, .int (nI (i + 1))), (0, .ref (al 8 0))]) hx hb dX5_first_58 rfl hl (by decide) rfl (fun ls hl => ?_)
            refine lv_iinc (v := (nI A1.length) + 1) (lv' := [(2, .int ((nI A1.length) + 1)), (3, .int (b2i (mAny μ i (A1 ++ [a])))), (1, .int (nI (i + 1))), (0, .ref (al 8 0))]) hx hb dX5_first_59 hl (k := 1) rfl rfl (by decide) rfl (fun ls hl => ?_)
            refine lv_goto (tgt := 19) hx hb dX5_first_62 (by decide) ?_
            exact ih (A1 ++ [a], t) ls (by simp only [List.length_cons]; omega) ⟨(by rw [hA]; simp), (by have h9 := lv_sub hl [1, 0, 2, 3] rfl; rw [nI_1, ← hsn] at h9; exact h9)⟩
  · have c_10 := bp_0.mp c_10
    refine lv_iconst (v := 0) hx hb dX5_first_13 (by decide) ?_
    exact W.zret (v := 0) hx hb hr rfl (fun t ht hW => ⟨⟨0, uI μ 8 0 0 0, rfl, (by unfold cFirstM; rw [pNum_no hgn c_10]), iv_giveM ht hI⟩, hS.F ht⟩) hS.2.2 dX5_first_14

set_option maxHeartbeats 4000000 in
set_option maxRecDepth 100000 in
theorem m_endRow (l : Launch) (D : va_G) (dA : Nat → ClassId) (sa : Nat → Nat) (lo : Nat) (al : Nat → Nat → Nat) (σ μ : CS) (g : Nat) (hg : g ≤ 20) : Met l yX5_endRow wsX5_endRow ({ frames := 1, cells := 0, slots := 0, locals := 30 }) (va_Pc [.ref (al 8 0), .int (nI g)] (ivP D dA sa lo al σ μ)) (va_Qv (fun u => u = mEnd μ g) (ivM D dA lo al σ) (fun q => lo ≤ q)) 0 0 (fun q => lo ≤ q) := by
  refine Met.ofW (cc := cX5_endRow) (maxL := 2) (ret := none) (by decide) rfl ?_
  intro p e s m args below meth c s₁ B hml hv
  obtain ⟨rfl, hI, hwd⟩ := hv
  have hx := B.exec
  have hb := B.bytes
  have hr := B.returns
  have hts : ∀ w ∈ WSall, w.before _ s = true := fun w h => atoms_spec (ws := wsX5_endRow) B.pre w (List.mem_cons_of_mem _ h)
  have hown : s.vm.findClass RX5 = some m.cls := findClass_of_methodNamed B.named
  have hlocks := B.notSynchronized
  have hK := hwd.1
  have hS : va_S (fun q => lo ≤ q) s.heap s.heap [] := va_S.rf
  have hl := lv_entry ([.ref (al 8 0), .int (nI g)]) (n := 2) (Nat.le_of_ble_eq_true rfl)
  rw [lg_entry_eq]
  generalize (lg_sl ([.ref (al 8 0), .int (nI g)]) ++ List.replicate (2 - (lg_sl ([.ref (al 8 0), .int (nI g)])).length) Slot.unset).toArray = ls at hl ⊢
  have hl : lv_has ls 2 [(0, .ref (al 8 0)), (1, .int (nI g))] := hl
  have hcg : (nI g).toNatClampNeg = g := nI_clamp (by omega)
  refine lv_aload_n hx hb dX5_endRow_0 rfl (lv_at hl 0 rfl) ?_
  refine sx_get (ci := 5) (C := RX5) (T := TX5) (N := 24) (v := .ref (al 9 9)) hx hb hts inX5 hown hK (c8_at hI) rfl 12 (by decide) (hts _ w_3_48) rfl rfl dX5_endRow_1 ?_
  refine lv_iload_n hx hb dX5_endRow_4 rfl (lv_at hl 1 rfl) ?_
  refine lv_dup2_11 hx hb dX5_endRow_5 rfl rfl ?_
  refine sx_lald hx hb hK (c9_9_at hI) 1 rfl (vp_in_nI (show g < 21 by omega) (by decide)) dX5_endRow_6 ?_
  rw [hcg]
  refine lv_aload_n hx hb dX5_endRow_7 rfl (lv_at hl 0 rfl) ?_
  refine lv_iload_n hx hb dX5_endRow_8 rfl (lv_at hl 1 rfl) ?_
  refine vp_callSl (W.runV (As := [.int (nI g)]) (rest := [.long (fL μ 9 9 g), .int (nI g), .ref (al 9 9)]) ⟨hx, hb, hml, hown, hts⟩ (m_running l D dA sa lo al σ μ g (by omega)) (cwV 1 hts (gdV w_3_206 w_3_208 wp_22 w_1_3 w_3_209) rfl rfl rfl (by decide +kernel) ⟨Nat.le_of_ble_eq_true rfl, Nat.le_of_ble_eq_true rfl⟩) ⟨iv_bl, sx_recv hK (c8_at hI) rfl, fun U hU hW => ⟨rfl, iv_use hI hwd hS hU hW⟩⟩ rfl rfl hl.1 rfl (lv_room (Nat.le_of_ble_eq_true rfl)) dX5_endRow_9 ⟨Nat.le_of_ble_eq_true rfl, Nat.le_of_ble_eq_true rfl⟩) (fun r_9 e_9 => ?_)
  subst e_9
  refine lv_ladd hx hb dX5_endRow_12 ?_
  refine sx_last hx hb hK hS (c9_9_at hI) (c9_9_lo hI) 1 rfl (vp_in_nI (show g < 21 by omega) (by decide)) dX5_endRow_13 (fun H locs hq => ?_)
  rw [hcg] at hq
  have hI := c9_9_uL (f := g) (v := (fL μ 9 9 g) + (mRun μ g)) hI hq
  have hS := hq.2.2.2
  refine lv_aload_n hx hb dX5_endRow_14 rfl (lv_at hl 0 rfl) ?_
  refine sx_get (ci := 5) (C := RX5) (T := TX5) (N := 24) (v := .ref (al 9 10)) hx hb hts inX5 hown hK (c8_at hI) rfl 13 (by decide) (hts _ w_3_49) rfl rfl dX5_endRow_15 ?_
  refine lv_iload_n hx hb dX5_endRow_18 rfl (lv_at hl 1 rfl) ?_
  refine lv_aload_n hx hb dX5_endRow_19 rfl (lv_at hl 0 rfl) ?_
  refine sx_get (ci := 5) (C := RX5) (T := TX5) (N := 24) (v := .int (fI μ 8 0 2)) hx hb hts inX5 hown hK (c8_at hI) rfl 2 (by decide) (hts _ w_3_38) rfl rfl dX5_endRow_20 ?_
  refine sx_iast hx hb hK hS (c9_10_at hI) (c9_10_lo hI) 0 rfl (vp_in_nI (show g < 21 by omega) (by decide)) dX5_endRow_23 (fun H locs hq => ?_)
  rw [hcg] at hq
  have hI := c9_10_uI (f := g) (v := fI μ 8 0 2) hI hq
  have hS := hq.2.2.2
  exact W.vret hx hb hr (fun t ht hW => ⟨⟨uI (uL μ 9 9 g ((fL μ 9 9 g) + (mRun μ g))) 9 10 g (fI μ 8 0 2), rfl, rfl, iv_giveM ht hI⟩, hS.F ht⟩) hS.2.2 dX5_endRow_24

set_option maxHeartbeats 4000000 in
set_option maxRecDepth 100000 in
theorem m_reduce (l : Launch) (D : va_G) (dA : Nat → ClassId) (sa : Nat → Nat) (lo : Nat) (al : Nat → Nat → Nat) (σ μ : CS) (x : Int32) (ct : Int64) (n r : Nat) (hw : WFm μ n r) (hred : ∀ j, gIx x r = some j → fI μ 9 14 (j + 1) ≤ 0 → ct < mCov μ (j + 1) (mP μ (j + 1)) → 1 ≤ ct → ∃ u, mRed (j + 1) (mP μ (j + 1)) (uI μ 8 0 0 0) ct = some u) : Met l yX5_reduce wsX5_reduce ({ frames := 1, cells := 0, slots := 0, locals := 40 }) (va_Pc [.ref (al 8 0), .int x, .long ct] (ivP D dA sa lo al σ μ)) (va_Ql (fun z9 u => (z9, u) = cRedM μ r x ct) (ivM D dA lo al σ) (fun q => lo ≤ q)) 0 0 (fun q => lo ≤ q) := by
  refine Met.ofW (cc := cX5_reduce) (maxL := 9) (ret := some .long) (by decide) rfl ?_
  intro p e s m args below meth c s₁ B hml hv
  obtain ⟨rfl, hI, hwd⟩ := hv
  have hx := B.exec
  have hb := B.bytes
  have hr := B.returns
  have hts : ∀ w ∈ WSall, w.before _ s = true := fun w h => atoms_spec (ws := wsX5_reduce) B.pre w (List.mem_cons_of_mem _ h)
  have hown : s.vm.findClass RX5 = some m.cls := findClass_of_methodNamed B.named
  have hlocks := B.notSynchronized
  have hK := hwd.1
  have hS : va_S (fun q => lo ≤ q) s.heap s.heap [] := va_S.rf
  have hl := lv_entry ([.ref (al 8 0), .int x, .long ct]) (n := 9) (Nat.le_of_ble_eq_true rfl)
  rw [lg_entry_eq]
  generalize (lg_sl ([.ref (al 8 0), .int x, .long ct]) ++ List.replicate (9 - (lg_sl ([.ref (al 8 0), .int x, .long ct])).length) Slot.unset).toArray = ls at hl ⊢
  have hl : lv_has ls 9 [(0, .ref (al 8 0)), (1, .int x), (2, .long ct)] := hl
  obtain ⟨hn20, hr60, hgn, hrn, hor, hpt, hpr, hdn⟩ := id hw
  refine lv_aload_n hx hb dX5_reduce_0 rfl (lv_at hl 0 rfl) ?_
  refine lv_iload_n hx hb dX5_reduce_1 rfl (lv_at hl 1 rfl) ?_
  refine vp_callSi (W.runV (As := [.int x]) (rest := []) ⟨hx, hb, hml, hown, hts⟩ (m_isReservation l D dA sa lo al σ μ x) (cwV 1 hts (gdV w_3_186 w_3_188 wp_19 w_1_3 w_3_189) rfl rfl rfl (by decide +kernel) ⟨Nat.le_of_ble_eq_true rfl, Nat.le_of_ble_eq_true rfl⟩) ⟨iv_bl, sx_recv hK (c8_at hI) rfl, fun U hU hW => ⟨rfl, iv_use hI hwd hS hU hW⟩⟩ rfl rfl hl.1 rfl (lv_room (Nat.le_of_ble_eq_true rfl)) dX5_reduce_2 ⟨Nat.le_of_ble_eq_true rfl, Nat.le_of_ble_eq_true rfl⟩) (fun r_2 e_2 => ?_)
  subst e_2
  refine lv_if_eq (tgt := 14) hx hb dX5_reduce_5 (by decide) (fun c_5 => ?_) (fun c_5 => ?_)
  · have c_5 := bp_0.mp c_5
    refine lv_aload_n hx hb dX5_reduce_14 rfl (lv_at hl 0 rfl) ?_
    refine lv_iconst (v := 1) hx hb dX5_reduce_15 (by decide) ?_
    refine va_calli (va_runV (As := [.int 1]) (rest := []) ⟨hx, hb, hml, hown, hts⟩ (m_refuse l D dA sa lo al σ μ 1) (cwV 1 hts (gdV w_3_126 w_3_128 wp_10 w_1_3 w_3_129) rfl rfl rfl (by decide +kernel) ⟨Nat.le_of_ble_eq_true rfl, Nat.le_of_ble_eq_true rfl⟩) ⟨iv_bl, sx_recv hK (c8_at hI) rfl, fun U hU hW => ⟨rfl, iv_use hI hwd hS hU hW⟩⟩ rfl rfl hl.1 rfl (lv_room (Nat.le_of_ble_eq_true rfl)) dX5_reduce_16 ⟨Nat.le_of_ble_eq_true rfl, Nat.le_of_ble_eq_true rfl⟩) hS (fun q _ h => h) (fun q h => h) (fun r_16 u9 T9 H1 locs ht9 hvm9 e_16 hB9 hz9 hk9 hS => ?_)
    have hI := iv_takeM ht9 hB9
    clear hB9 hk9
    obtain ⟨rfl, rfl⟩ := e_16
    refine lv_i2l hx hb dX5_reduce_19 rfl ?_
    exact W.lret (v := (0 : Int32).toInt64) hx hb hr (fun t ht hW => ⟨⟨(0 : Int32).toInt64, uI μ 8 0 0 1, rfl, (by unfold cRedM; rw [pNum_no hrn c_5] <;> rfl), iv_giveM ht hI⟩, hS.F ht⟩) hS.2.2 dX5_reduce_20
  · have c_5 := bp_n0.mp c_5
    refine lv_lload_n hx hb dX5_reduce_8 rfl (lv_at hl 2 rfl) ?_
    refine lv_lconst (v := 1) hx hb dX5_reduce_9 (by decide) ?_
    refine W.lcmp hx hb dX5_reduce_10 ?_
    refine lv_if_ge (tgt := 21) hx hb dX5_reduce_11 (by decide) (fun c_11 => ?_) (fun c_11 => ?_)
    · have c_11 : 1 ≤ ct := (lg_cmp_ge _ _).mp c_11
      obtain ⟨i, hi, ex, hix⟩ := pNum_ix hrn (by omega) c_5
      subst ex
      have hcx : (nI (i + 1)).toNatClampNeg = i + 1 := nI_clamp (by omega)
      have hvx : vp_in (nI (i + 1)) 61 := vp_in_nI (by omega) (by decide)
      have hl : lv_has ls 9 [(0, .ref (al 8 0)), (1, .int (nI (i + 1))), (2, .long ct)] := hl
      obtain ⟨p, hp4, hpp⟩ := hpt (i + 1) (by omega)
      have hmp : mP μ (i + 1) = p := mP_of hpp hp4
      refine lv_aload_n hx hb dX5_reduce_21 rfl (lv_at hl 0 rfl) ?_
      refine lv_iconst (v := 0) hx hb dX5_reduce_22 (by decide) ?_
      refine sx_put (ci := 5) (v := .int 0) (ty := .int) (C := RX5) (T := TX5) (N := 24) hx hb hts inX5 tyX5 okX5 nmX5 hown hK hS (c8_at hI) (c8_lo hI) rfl 0 (by decide) (hts _ w_3_36) rfl rfl (by decide +kernel) rfl rfl (Nat.le_of_ble_eq_true rfl) dX5_reduce_23 (fun H locs hq => ?_)
      have hI := c8_uI (f := 0) (v := 0) hI rfl hq
      have hS := hq.2.2.2
      refine lv_aload_n hx hb dX5_reduce_26 rfl (lv_at hl 0 rfl) ?_
      refine sx_get (ci := 5) (C := RX5) (T := TX5) (N := 24) (v := .ref (al 9 14)) hx hb hts inX5 hown hK (c8_at hI) rfl 18 (by decide) (hts _ w_3_54) rfl rfl dX5_reduce_27 ?_
      refine lv_iload_n hx hb dX5_reduce_30 rfl (lv_at hl 1 rfl) ?_
      refine sx_iald hx hb hK (c9_14_at hI) 0 rfl hvx dX5_reduce_31 ?_
      rw [hcx]
      refine W.eq (g2 := F0 m 32 ls (.int (fI μ 9 14 (i + 1)) :: [])) rfl ?_
      refine lv_if_gt (tgt := 45) hx hb dX5_reduce_32 (by decide) (fun c_32 => ?_) (fun c_32 => ?_)
      · refine lv_ldc2 (v := (-1)) hx hb hown (hts _ w_3_171) dX5_reduce_45 ?_
        exact W.lret (v := (-1)) hx hb hr (fun t ht hW => ⟨⟨(-1), uI μ 8 0 0 0, rfl, (by unfold cRedM; rw [hix]; simp only [if_pos c_11, if_neg (run_le c_32)]), iv_giveM ht hI⟩, hS.F ht⟩) hS.2.2 dX5_reduce_48
      · refine lv_aload_n hx hb dX5_reduce_35 rfl (lv_at hl 0 rfl) ?_
        refine lv_iload_n hx hb dX5_reduce_36 rfl (lv_at hl 1 rfl) ?_
        refine vp_callSl (W.runV (As := [.int (nI (i + 1))]) (rest := []) ⟨hx, hb, hml, hown, hts⟩ (m_covered l D dA sa lo al σ (uI μ 8 0 0 0) (i + 1) p (by omega) hp4 hpp) (cwV 1 hts (gdV w_3_194 w_3_196 wp_20 w_1_3 w_3_197) rfl rfl rfl (by decide +kernel) ⟨Nat.le_of_ble_eq_true rfl, Nat.le_of_ble_eq_true rfl⟩) ⟨iv_bl, sx_recv hK (c8_at hI) rfl, fun U hU hW => ⟨rfl, iv_use hI hwd hS hU hW⟩⟩ rfl rfl hl.1 rfl (lv_room (Nat.le_of_ble_eq_true rfl)) dX5_reduce_37 ⟨Nat.le_of_ble_eq_true rfl, Nat.le_of_ble_eq_true rfl⟩) (fun r_37 e_37 => ?_)
        subst e_37
        refine lv_lload_n hx hb dX5_reduce_40 rfl (lv_at hl 2 rfl) ?_
        refine W.lcmp hx hb dX5_reduce_41 ?_
        refine lv_if_gt (tgt := 49) hx hb dX5_reduce_42 (by decide) (fun c_42 => ?_) (fun c_42 => ?_)
        · have c_42 : ct < (mCov (uI μ 8 0 0 0) (i + 1) p) := (lg_cmp_gt _ _).mp c_42
          obtain ⟨u, hu⟩ := hred i hix (run_le2 c_32) (show ct < mCov μ (i + 1) (mP μ (i + 1)) by rw [hmp, ← mCov_th (y := 0)]; exact c_42) c_11
          rw [hmp] at hu
          refine lv_lload_n hx hb dX5_reduce_49 rfl (lv_at hl 2 rfl) ?_
          refine lv_lstore (lv' := [(4, .long ct), (0, .ref (al 8 0)), (1, .int (nI (i + 1))), (2, .long ct)]) hx hb dX5_reduce_50 hl (by decide) rfl (fun ls hl => ?_)
          refine w_loop (hd := 52) (stk := []) (X := Nat × Int64 × CS) (fun xx => match xx with | (q, left, τ) => 2 * q + (if left ≤ 0 then 0 else 1)) (fun xx ls H locs => match xx with | (q, left, τ) => Inv D dA lo al σ τ H ∧ va_S (fun q => lo ≤ q) s.heap H locs ∧ (mRed (i + 1) q τ left = some u ∧ q ≤ 4 ∧ fI τ 9 15 (i + 1) = nI q) ∧ lv_has ls 9 [(4, .long left), (1, .int (nI (i + 1))), (0, .ref (al 8 0))]) (fun xx ls H locs hk ih => ?_) (p, ct, uI μ 8 0 0 0) ls _ _ ⟨hI, hS, ⟨hu, hp4, hpp⟩, lv_sub hl [0, 2, 1] rfl⟩
          obtain ⟨q, left, τ⟩ := xx
          obtain ⟨hI, hS, ⟨hk, hq4, hqv⟩, hl⟩ := hk
          have hl : lv_has ls 9 [(4, .long left), (1, .int (nI (i + 1))), (0, .ref (al 8 0))] := hl
          refine lv_lload hx hb dX5_reduce_52 (lv_at hl 0 rfl) ?_
          refine lv_lconst (v := 0) hx hb dX5_reduce_54 (by decide) ?_
          refine W.lcmp hx hb dX5_reduce_55 ?_
          refine lv_if_le (tgt := 148) hx hb dX5_reduce_56 (by decide) (fun c_56 => ?_) (fun c_56 => ?_)
          · have c_56 : left ≤ 0 := (lg_cmp_le _ _).mp c_56
            have hu9 := mRed_z hk c_56
            refine lv_aload_n hx hb dX5_reduce_148 rfl (lv_at hl 2 rfl) ?_
            refine lv_iload_n hx hb dX5_reduce_149 rfl (lv_at hl 1 rfl) ?_
            refine vp_callSl (W.runV (As := [.int (nI (i + 1))]) (rest := []) ⟨hx, hb, hml, hown, hts⟩ (m_covered l D dA sa lo al σ τ (i + 1) q (by omega) hq4 hqv) (cwV 1 hts (gdV w_3_194 w_3_196 wp_20 w_1_3 w_3_197) rfl rfl rfl (by decide +kernel) ⟨Nat.le_of_ble_eq_true rfl, Nat.le_of_ble_eq_true rfl⟩) ⟨iv_bl, sx_recv hK (c8_at hI) rfl, fun U hU hW => ⟨rfl, iv_use hI hwd hS hU hW⟩⟩ rfl rfl hl.1 rfl (lv_room (Nat.le_of_ble_eq_true rfl)) dX5_reduce_150 ⟨Nat.le_of_ble_eq_true rfl, Nat.le_of_ble_eq_true rfl⟩) (fun r_150 e_150 => ?_)
            subst e_150
            exact W.lret (v := mCov τ (i + 1) q) hx hb hr (fun t ht hW => ⟨⟨mCov τ (i + 1) q, τ, rfl, (by unfold cRedM; rw [hix]; simp only [if_pos c_11, if_pos (run_le2 c_32), if_pos (show ct < mCov μ (i + 1) (mP μ (i + 1)) by rw [hmp, ← mCov_th (y := 0)]; exact c_42)]; rw [hmp, hu]; simp only []; rw [hu9, mP_of hqv hq4]), iv_giveM ht hI⟩, hS.F ht⟩) hS.2.2 dX5_reduce_153
          · have c_56 : ¬ left ≤ 0 := fun h => c_56 ((lg_cmp_le _ _).mpr h)
            obtain ⟨p9, rfl⟩ := mRed_s hk c_56
            have hck : (nI (4 * (i + 1) + p9)).toNatClampNeg = 4 * (i + 1) + p9 := nI_clamp (by omega)
            have hvk : vp_in (nI (4 * (i + 1) + p9)) 244 := vp_in_nI (by omega) (by decide)
            refine lv_iconst (v := 4) hx hb dX5_reduce_59 (by decide) ?_
            refine lv_iload_n hx hb dX5_reduce_60 rfl (lv_at hl 1 rfl) ?_
            refine lv_imul hx hb dX5_reduce_61 ?_
            refine W.eq (g2 := F0 m 62 ls (.int (nI (4 * (i + 1))) :: [])) (by rw [i4mul]) ?_
            refine lv_aload_n hx hb dX5_reduce_62 rfl (lv_at hl 2 rfl) ?_
            refine sx_get (ci := 5) (C := RX5) (T := TX5) (N := 24) (v := .ref (al 9 15)) hx hb hts inX5 hown hK (c8_at hI) rfl 19 (by decide) (hts _ w_3_55) rfl rfl dX5_reduce_63 ?_
            refine lv_iload_n hx hb dX5_reduce_66 rfl (lv_at hl 1 rfl) ?_
            refine sx_iald hx hb hK (c9_15_at hI) 0 rfl hvx dX5_reduce_67 ?_
            rw [hcx]
            refine lv_iadd hx hb dX5_reduce_68 ?_
            refine W.eq (g2 := F0 m 69 ls (.int (nI (4 * (i + 1) + p9 + 1)) :: [])) (by rw [hqv, nI_add]; rfl) ?_
            refine lv_iconst (v := 1) hx hb dX5_reduce_69 (by decide) ?_
            refine lv_isub hx hb dX5_reduce_70 ?_
            refine W.eq (g2 := F0 m 71 ls (.int (nI (4 * (i + 1) + p9)) :: [])) (by rw [nI_pred]) ?_
            refine lv_istore (lv' := [(6, .int (nI (4 * (i + 1) + p9))), (4, .long left), (1, .int (nI (i + 1))), (0, .ref (al 8 0))]) hx hb dX5_reduce_71 hl (by decide) rfl (fun ls hl => ?_)
            refine jn_l (tgt := 98) (rest := []) (ls := ls) (P := fun b9 => b9 = mMin (fL τ 9 17 (4 * (i + 1) + p9)) left) (fun J_73 => ?_) (fun b9 hb9 => ?_)
            · refine lv_aload_n hx hb dX5_reduce_73 rfl (lv_at hl 3 rfl) ?_
              refine sx_get (ci := 5) (C := RX5) (T := TX5) (N := 24) (v := .ref (al 9 17)) hx hb hts inX5 hown hK (c8_at hI) rfl 21 (by decide) (hts _ w_3_57) rfl rfl dX5_reduce_74 ?_
              refine lv_iload hx hb dX5_reduce_77 (lv_at hl 0 rfl) ?_
              refine sx_lald hx hb hK (c9_17_at hI) 1 rfl hvk dX5_reduce_79 ?_
              rw [hck]
              refine lv_lload hx hb dX5_reduce_80 (lv_at hl 1 rfl) ?_
              refine W.lcmp hx hb dX5_reduce_82 ?_
              refine lv_if_ge (tgt := 96) hx hb dX5_reduce_83 (by decide) (fun c_83 => ?_) (fun c_83 => ?_)
              · have c_83 : left ≤ (fL τ 9 17 (4 * (i + 1) + p9)) := (lg_cmp_ge _ _).mp c_83
                refine lv_lload hx hb dX5_reduce_96 (lv_at hl 1 rfl) ?_
                exact J_73 _ (by unfold mMin; rw [if_pos c_83])
              · have c_83 : ¬ left ≤ (fL τ 9 17 (4 * (i + 1) + p9)) := fun h => c_83 ((lg_cmp_ge _ _).mpr h)
                refine lv_aload_n hx hb dX5_reduce_86 rfl (lv_at hl 3 rfl) ?_
                refine sx_get (ci := 5) (C := RX5) (T := TX5) (N := 24) (v := .ref (al 9 17)) hx hb hts inX5 hown hK (c8_at hI) rfl 21 (by decide) (hts _ w_3_57) rfl rfl dX5_reduce_87 ?_
                refine lv_iload hx hb dX5_reduce_90 (lv_at hl 0 rfl) ?_
                refine sx_lald hx hb hK (c9_17_at hI) 1 rfl hvk dX5_reduce_92 ?_
                rw [hck]
                refine lv_goto (tgt := 98) hx hb dX5_reduce_93 (by decide) ?_
                exact J_73 _ (by unfold mMin; rw [if_neg c_83])
            · subst hb9
              refine lv_lstore (lv' := [(7, .long (mMin (fL τ 9 17 (4 * (i + 1) + p9)) left)), (6, .int (nI (4 * (i + 1) + p9))), (4, .long left), (1, .int (nI (i + 1))), (0, .ref (al 8 0))]) hx hb dX5_reduce_98 hl (by decide) rfl (fun ls hl => ?_)
              refine lv_aload_n hx hb dX5_reduce_100 rfl (lv_at hl 4 rfl) ?_
              refine sx_get (ci := 5) (C := RX5) (T := TX5) (N := 24) (v := .ref (al 9 17)) hx hb hts inX5 hown hK (c8_at hI) rfl 21 (by decide) (hts _ w_3_57) rfl rfl dX5_reduce_101 ?_
              refine lv_iload hx hb dX5_reduce_104 (lv_at hl 1 rfl) ?_
              refine lv_dup2_11 hx hb dX5_reduce_106 rfl rfl ?_
              refine sx_lald hx hb hK (c9_17_at hI) 1 rfl hvk dX5_reduce_107 ?_
              rw [hck]
              refine lv_lload hx hb dX5_reduce_108 (lv_at hl 0 rfl) ?_
              refine lv_lsub hx hb dX5_reduce_110 ?_
              refine sx_last hx hb hK hS (c9_17_at hI) (c9_17_lo hI) 1 rfl hvk dX5_reduce_111 (fun H locs hq => ?_)
              rw [hck] at hq
              have hI := c9_17_uL (f := 4 * (i + 1) + p9) (v := (fL τ 9 17 (4 * (i + 1) + p9)) - (mMin (fL τ 9 17 (4 * (i + 1) + p9)) left)) hI hq
              have hS := hq.2.2.2
              refine lv_lload hx hb dX5_reduce_112 (lv_at hl 2 rfl) ?_
              refine lv_lload hx hb dX5_reduce_114 (lv_at hl 0 rfl) ?_
              refine lv_lsub hx hb dX5_reduce_116 ?_
              refine lv_lstore (lv' := [(4, .long (left - (mMin (fL τ 9 17 (4 * (i + 1) + p9)) left))), (7, .long (mMin (fL τ 9 17 (4 * (i + 1) + p9)) left)), (6, .int (nI (4 * (i + 1) + p9))), (1, .int (nI (i + 1))), (0, .ref (al 8 0))]) hx hb dX5_reduce_117 hl (by decide) rfl (fun ls hl => ?_)
              refine lv_aload_n hx hb dX5_reduce_119 rfl (lv_at hl 4 rfl) ?_
              refine sx_get (ci := 5) (C := RX5) (T := TX5) (N := 24) (v := .ref (al 9 15)) hx hb hts inX5 hown hK (c8_at hI) rfl 19 (by decide) (hts _ w_3_55) rfl rfl dX5_reduce_120 ?_
              refine lv_iload_n hx hb dX5_reduce_123 rfl (lv_at hl 3 rfl) ?_
              refine lv_dup2_11 hx hb dX5_reduce_124 rfl rfl ?_
              refine sx_iald hx hb hK (c9_15_at hI) 0 rfl hvx dX5_reduce_125 ?_
              rw [hcx]
              refine W.eq (g2 := F0 m 126 ls (.int (fI τ 9 15 (i + 1)) :: [.int (nI (i + 1)), .ref (al 9 15)])) rfl ?_
              refine lv_aload_n hx hb dX5_reduce_126 rfl (lv_at hl 4 rfl) ?_
              refine sx_get (ci := 5) (C := RX5) (T := TX5) (N := 24) (v := .ref (al 9 17)) hx hb hts inX5 hown hK (c8_at hI) rfl 21 (by decide) (hts _ w_3_57) rfl rfl dX5_reduce_127 ?_
              refine lv_iload hx hb dX5_reduce_130 (lv_at hl 2 rfl) ?_
              refine sx_lald hx hb hK (c9_17_at hI) 1 rfl hvk dX5_reduce_132 ?_
              rw [hck]
              refine W.eq (g2 := F0 m 133 ls (.long (fL τ 9 17 (4 * (i + 1) + p9) - mMin (fL τ 9 17 (4 * (i + 1) + p9)) left) :: [.int (fI τ 9 15 (i + 1)), .int (nI (i + 1)), .ref (al 9 15)])) (by rw [fL_uL, up3_at, va_up_self]) ?_
              refine lv_lconst (v := 0) hx hb dX5_reduce_133 (by decide) ?_
              refine W.lcmp hx hb dX5_reduce_134 ?_
              refine lv_if_ne (tgt := 142) hx hb dX5_reduce_135 (by decide) (fun c_135 => ?_) (fun c_135 => ?_)
              · have c_135 : ¬ (fL τ 9 17 (4 * (i + 1) + p9) - mMin (fL τ 9 17 (4 * (i + 1) + p9)) left) = 0 := fun h => c_135 ((lg_cmp_eq _ _).mpr h)
                refine lv_iconst (v := 0) hx hb dX5_reduce_142 (by decide) ?_
                refine lv_isub hx hb dX5_reduce_143 ?_
                refine W.eq (g2 := F0 m 144 ls (.int (nI (p9 + 1) - 0) :: [.int (nI (i + 1)), .ref (al 9 15)])) (by rw [hqv]) ?_
                refine sx_iast hx hb hK hS (c9_15_at hI) (c9_15_lo hI) 0 rfl hvx dX5_reduce_144 (fun H locs hq => ?_)
                rw [hcx] at hq
                have hI := c9_15_uI (f := i + 1) (v := nI (p9 + 1) - 0) hI hq
                have hS := hq.2.2.2
                refine lv_goto (tgt := 52) hx hb dX5_reduce_145 (by decide) ?_
                have hz9 : left - mMin (fL τ 9 17 (4 * (i + 1) + p9)) left ≤ 0 := by rw [mMin_nz c_135]; decide
                exact ih (p9 + 1, left - mMin (fL τ 9 17 (4 * (i + 1) + p9)) left, uI (uL τ 9 17 (4 * (i + 1) + p9) ((fL τ 9 17 (4 * (i + 1) + p9)) - (mMin (fL τ 9 17 (4 * (i + 1) + p9)) left))) 9 15 (i + 1) (nI (p9 + 1) - 0)) ls _ _ (by show 2 * (p9 + 1) + (if left - mMin (fL τ 9 17 (4 * (i + 1) + p9)) left ≤ 0 then 0 else 1) < 2 * (p9 + 1) + (if left ≤ 0 then 0 else 1); rw [if_pos hz9, if_neg c_56]; omega) ⟨hI, hS, ⟨(by rw [mRed, if_neg c_56, if_neg c_135] at hk; rw [mRed, if_pos hz9]; exact hk), hq4, (by rw [fI_uI, up3_at, va_up_self]; exact Int32.sub_zero _)⟩, lv_sub hl [0, 3, 4] rfl⟩
              · have c_135 : (fL τ 9 17 (4 * (i + 1) + p9) - mMin (fL τ 9 17 (4 * (i + 1) + p9)) left) = 0 := (lg_cmp_eq _ _).mp c_135
                refine lv_iconst (v := 1) hx hb dX5_reduce_138 (by decide) ?_
                refine lv_goto (tgt := 143) hx hb dX5_reduce_139 (by decide) ?_
                refine lv_isub hx hb dX5_reduce_143 ?_
                refine W.eq (g2 := F0 m 144 ls (.int (nI (p9 + 1) - 1) :: [.int (nI (i + 1)), .ref (al 9 15)])) (by rw [hqv]) ?_
                refine sx_iast hx hb hK hS (c9_15_at hI) (c9_15_lo hI) 0 rfl hvx dX5_reduce_144 (fun H locs hq => ?_)
                rw [hcx] at hq
                have hI := c9_15_uI (f := i + 1) (v := nI (p9 + 1) - 1) hI hq
                have hS := hq.2.2.2
                refine lv_goto (tgt := 52) hx hb dX5_reduce_145 (by decide) ?_
                exact ih (p9, left - mMin (fL τ 9 17 (4 * (i + 1) + p9)) left, uI (uL τ 9 17 (4 * (i + 1) + p9) ((fL τ 9 17 (4 * (i + 1) + p9)) - (mMin (fL τ 9 17 (4 * (i + 1) + p9)) left))) 9 15 (i + 1) (nI (p9 + 1) - 1)) ls _ _ (by show 2 * p9 + _ < 2 * (p9 + 1) + _; rw [if_neg c_56]; split <;> omega) ⟨hI, hS, ⟨(by rw [mRed, if_neg c_56, if_pos c_135] at hk; exact hk), (by omega), (by rw [fI_uI, up3_at, va_up_self, nI_pred])⟩, lv_sub hl [0, 3, 4] rfl⟩
        · have c_42 : ¬ ct < (mCov (uI μ 8 0 0 0) (i + 1) p) := fun h => c_42 ((lg_cmp_gt _ _).mpr h)
          refine lv_ldc2 (v := (-1)) hx hb hown (hts _ w_3_171) dX5_reduce_45 ?_
          exact W.lret (v := (-1)) hx hb hr (fun t ht hW => ⟨⟨(-1), uI μ 8 0 0 0, rfl, (by unfold cRedM; rw [hix]; simp only [if_pos c_11, if_pos (run_le2 c_32), if_neg (show ¬ ct < mCov μ (i + 1) (mP μ (i + 1)) by rw [hmp, ← mCov_th (y := 0)]; exact c_42)]), iv_giveM ht hI⟩, hS.F ht⟩) hS.2.2 dX5_reduce_48
    · have c_11 : ¬ 1 ≤ ct := fun h => c_11 ((lg_cmp_ge _ _).mpr h)
      refine lv_aload_n hx hb dX5_reduce_14 rfl (lv_at hl 0 rfl) ?_
      refine lv_iconst (v := 1) hx hb dX5_reduce_15 (by decide) ?_
      refine va_calli (va_runV (As := [.int 1]) (rest := []) ⟨hx, hb, hml, hown, hts⟩ (m_refuse l D dA sa lo al σ μ 1) (cwV 1 hts (gdV w_3_126 w_3_128 wp_10 w_1_3 w_3_129) rfl rfl rfl (by decide +kernel) ⟨Nat.le_of_ble_eq_true rfl, Nat.le_of_ble_eq_true rfl⟩) ⟨iv_bl, sx_recv hK (c8_at hI) rfl, fun U hU hW => ⟨rfl, iv_use hI hwd hS hU hW⟩⟩ rfl rfl hl.1 rfl (lv_room (Nat.le_of_ble_eq_true rfl)) dX5_reduce_16 ⟨Nat.le_of_ble_eq_true rfl, Nat.le_of_ble_eq_true rfl⟩) hS (fun q _ h => h) (fun q h => h) (fun r_16 u9 T9 H1 locs ht9 hvm9 e_16 hB9 hz9 hk9 hS => ?_)
      have hI := iv_takeM ht9 hB9
      clear hB9 hk9
      obtain ⟨rfl, rfl⟩ := e_16
      refine lv_i2l hx hb dX5_reduce_19 rfl ?_
      exact W.lret (v := (0 : Int32).toInt64) hx hb hr (fun t ht hW => ⟨⟨(0 : Int32).toInt64, uI μ 8 0 0 1, rfl, (by unfold cRedM; rcases hq9 : gIx x r with _ | i9 <;> simp only [] <;> (try rw [if_neg c_11]) <;> rfl), iv_giveM ht hI⟩, hS.F ht⟩) hS.2.2 dX5_reduce_20

set_option maxHeartbeats 4000000 in
set_option maxRecDepth 100000 in
theorem m_claim (l : Launch) (D : va_G) (dA : Nat → ClassId) (sa : Nat → Nat) (lo : Nat) (al : Nat → Nat → Nat) (σ μ : CS) (x : Int32) (ct : Int64) (n r : Nat) (hw : WFm μ n r) : Met l yX5_claim wsX5_claim ({ frames := 2, cells := 0, slots := 0, locals := 60 }) (va_Pc [.ref (al 8 0), .int x, .long ct] (ivP D dA sa lo al σ μ)) (va_Ql (fun z9 u => (z9, u) = cClmM μ r x ct) (ivM D dA lo al σ) (fun q => lo ≤ q)) 0 0 (fun q => lo ≤ q) := by
  refine Met.ofW (cc := cX5_claim) (maxL := 12) (ret := some .long) (by decide) rfl ?_
  intro p e s m args below meth c s₁ B hml hv
  obtain ⟨rfl, hI, hwd⟩ := hv
  have hx := B.exec
  have hb := B.bytes
  have hr := B.returns
  have hts : ∀ w ∈ WSall, w.before _ s = true := fun w h => atoms_spec (ws := wsX5_claim) B.pre w (List.mem_cons_of_mem _ h)
  have hown : s.vm.findClass RX5 = some m.cls := findClass_of_methodNamed B.named
  have hlocks := B.notSynchronized
  have hK := hwd.1
  have hS : va_S (fun q => lo ≤ q) s.heap s.heap [] := va_S.rf
  have hl := lv_entry ([.ref (al 8 0), .int x, .long ct]) (n := 12) (Nat.le_of_ble_eq_true rfl)
  rw [lg_entry_eq]
  generalize (lg_sl ([.ref (al 8 0), .int x, .long ct]) ++ List.replicate (12 - (lg_sl ([.ref (al 8 0), .int x, .long ct])).length) Slot.unset).toArray = ls at hl ⊢
  have hl : lv_has ls 12 [(0, .ref (al 8 0)), (1, .int x), (2, .long ct)] := hl
  obtain ⟨hn20, hr60, hgn, hrn, hor, hpt, hpr, hdn⟩ := id hw
  refine lv_aload_n hx hb dX5_claim_0 rfl (lv_at hl 0 rfl) ?_
  refine lv_iload_n hx hb dX5_claim_1 rfl (lv_at hl 1 rfl) ?_
  refine vp_callSi (W.runV (As := [.int x]) (rest := []) ⟨hx, hb, hml, hown, hts⟩ (m_isReservation l D dA sa lo al σ μ x) (cwV 1 hts (gdV w_3_186 w_3_188 wp_19 w_1_3 w_3_189) rfl rfl rfl (by decide +kernel) ⟨Nat.le_of_ble_eq_true rfl, Nat.le_of_ble_eq_true rfl⟩) ⟨iv_bl, sx_recv hK (c8_at hI) rfl, fun U hU hW => ⟨rfl, iv_use hI hwd hS hU hW⟩⟩ rfl rfl hl.1 rfl (lv_room (Nat.le_of_ble_eq_true rfl)) dX5_claim_2 ⟨Nat.le_of_ble_eq_true rfl, Nat.le_of_ble_eq_true rfl⟩) (fun r_2 e_2 => ?_)
  subst e_2
  refine lv_if_eq (tgt := 14) hx hb dX5_claim_5 (by decide) (fun c_5 => ?_) (fun c_5 => ?_)
  · have c_5 := bp_0.mp c_5
    refine lv_aload_n hx hb dX5_claim_14 rfl (lv_at hl 0 rfl) ?_
    refine lv_iconst (v := 1) hx hb dX5_claim_15 (by decide) ?_
    refine va_calli (va_runV (As := [.int 1]) (rest := []) ⟨hx, hb, hml, hown, hts⟩ (m_refuse l D dA sa lo al σ μ 1) (cwV 1 hts (gdV w_3_126 w_3_128 wp_10 w_1_3 w_3_129) rfl rfl rfl (by decide +kernel) ⟨Nat.le_of_ble_eq_true rfl, Nat.le_of_ble_eq_true rfl⟩) ⟨iv_bl, sx_recv hK (c8_at hI) rfl, fun U hU hW => ⟨rfl, iv_use hI hwd hS hU hW⟩⟩ rfl rfl hl.1 rfl (lv_room (Nat.le_of_ble_eq_true rfl)) dX5_claim_16 ⟨Nat.le_of_ble_eq_true rfl, Nat.le_of_ble_eq_true rfl⟩) hS (fun q _ h => h) (fun q h => h) (fun r_16 u9 T9 H1 locs ht9 hvm9 e_16 hB9 hz9 hk9 hS => ?_)
    have hI := iv_takeM ht9 hB9
    clear hB9 hk9
    obtain ⟨rfl, rfl⟩ := e_16
    refine lv_i2l hx hb dX5_claim_19 rfl ?_
    exact W.lret (v := (0 : Int32).toInt64) hx hb hr (fun t ht hW => ⟨⟨(0 : Int32).toInt64, uI μ 8 0 0 1, rfl, (by unfold cClmM; rw [pNum_no hrn c_5] <;> rfl), iv_giveM ht hI⟩, hS.F ht⟩) hS.2.2 dX5_claim_20
  · have c_5 := bp_n0.mp c_5
    refine lv_lload_n hx hb dX5_claim_8 rfl (lv_at hl 2 rfl) ?_
    refine lv_lconst (v := 1) hx hb dX5_claim_9 (by decide) ?_
    refine W.lcmp hx hb dX5_claim_10 ?_
    refine lv_if_ge (tgt := 21) hx hb dX5_claim_11 (by decide) (fun c_11 => ?_) (fun c_11 => ?_)
    · have c_11 : 1 ≤ ct := (lg_cmp_ge _ _).mp c_11
      obtain ⟨i, hi, ex, hix⟩ := pNum_ix hrn (by omega) c_5
      subst ex
      have hcx : (nI (i + 1)).toNatClampNeg = i + 1 := nI_clamp (by omega)
      have hvx : vp_in (nI (i + 1)) 61 := vp_in_nI (by omega) (by decide)
      have hl : lv_has ls 12 [(0, .ref (al 8 0)), (1, .int (nI (i + 1))), (2, .long ct)] := hl
      obtain ⟨p, hp4, hpp⟩ := hpt (i + 1) (by omega)
      have hmp : mP μ (i + 1) = p := mP_of hpp hp4
      refine lv_aload_n hx hb dX5_claim_21 rfl (lv_at hl 0 rfl) ?_
      refine lv_iconst (v := 0) hx hb dX5_claim_22 (by decide) ?_
      refine sx_put (ci := 5) (v := .int 0) (ty := .int) (C := RX5) (T := TX5) (N := 24) hx hb hts inX5 tyX5 okX5 nmX5 hown hK hS (c8_at hI) (c8_lo hI) rfl 0 (by decide) (hts _ w_3_36) rfl rfl (by decide +kernel) rfl rfl (Nat.le_of_ble_eq_true rfl) dX5_claim_23 (fun H locs hq => ?_)
      have hI := c8_uI (f := 0) (v := 0) hI rfl hq
      have hS := hq.2.2.2
      refine lv_aload_n hx hb dX5_claim_26 rfl (lv_at hl 0 rfl) ?_
      refine sx_get (ci := 5) (C := RX5) (T := TX5) (N := 24) (v := .ref (al 9 14)) hx hb hts inX5 hown hK (c8_at hI) rfl 18 (by decide) (hts _ w_3_54) rfl rfl dX5_claim_27 ?_
      refine lv_iload_n hx hb dX5_claim_30 rfl (lv_at hl 1 rfl) ?_
      refine sx_iald hx hb hK (c9_14_at hI) 0 rfl hvx dX5_claim_31 ?_
      rw [hcx]
      refine W.eq (g2 := F0 m 32 ls (.int (fI μ 9 14 (i + 1)) :: [])) rfl ?_
      refine lv_if_gt (tgt := 45) hx hb dX5_claim_32 (by decide) (fun c_32 => ?_) (fun c_32 => ?_)
      · refine lv_ldc2 (v := (-1)) hx hb hown (hts _ w_3_171) dX5_claim_45 ?_
        exact W.lret (v := (-1)) hx hb hr (fun t ht hW => ⟨⟨(-1), uI μ 8 0 0 0, rfl, (by unfold cClmM; rw [hix]; simp only [if_pos c_11, if_neg (run_le c_32)]), iv_giveM ht hI⟩, hS.F ht⟩) hS.2.2 dX5_claim_48
      · refine lv_aload_n hx hb dX5_claim_35 rfl (lv_at hl 0 rfl) ?_
        refine lv_iload_n hx hb dX5_claim_36 rfl (lv_at hl 1 rfl) ?_
        refine vp_callSl (W.runV (As := [.int (nI (i + 1))]) (rest := []) ⟨hx, hb, hml, hown, hts⟩ (m_covered l D dA sa lo al σ (uI μ 8 0 0 0) (i + 1) p (by omega) hp4 hpp) (cwV 1 hts (gdV w_3_194 w_3_196 wp_20 w_1_3 w_3_197) rfl rfl rfl (by decide +kernel) ⟨Nat.le_of_ble_eq_true rfl, Nat.le_of_ble_eq_true rfl⟩) ⟨iv_bl, sx_recv hK (c8_at hI) rfl, fun U hU hW => ⟨rfl, iv_use hI hwd hS hU hW⟩⟩ rfl rfl hl.1 rfl (lv_room (Nat.le_of_ble_eq_true rfl)) dX5_claim_37 ⟨Nat.le_of_ble_eq_true rfl, Nat.le_of_ble_eq_true rfl⟩) (fun r_37 e_37 => ?_)
        subst e_37
        refine lv_lload_n hx hb dX5_claim_40 rfl (lv_at hl 2 rfl) ?_
        refine W.lcmp hx hb dX5_claim_41 ?_
        refine lv_if_ge (tgt := 49) hx hb dX5_claim_42 (by decide) (fun c_42 => ?_) (fun c_42 => ?_)
        · have c_42 : ct ≤ (mCov (uI μ 8 0 0 0) (i + 1) p) := (lg_cmp_ge _ _).mp c_42
          refine lv_lload_n hx hb dX5_claim_49 rfl (lv_at hl 2 rfl) ?_
          refine lv_lstore (lv' := [(4, .long ct), (0, .ref (al 8 0)), (1, .int (nI (i + 1))), (2, .long ct)]) hx hb dX5_claim_50 hl (by decide) rfl (fun ls hl => ?_)
          refine lv_lconst (v := 0) hx hb dX5_claim_52 (by decide) ?_
          refine lv_lstore (lv' := [(6, .long 0), (4, .long ct), (0, .ref (al 8 0)), (1, .int (nI (i + 1))), (2, .long ct)]) hx hb dX5_claim_53 hl (by decide) rfl (fun ls hl => ?_)
          refine lv_iconst (v := 4) hx hb dX5_claim_55 (by decide) ?_
          refine lv_iload_n hx hb dX5_claim_56 rfl (lv_at hl 3 rfl) ?_
          refine lv_imul hx hb dX5_claim_57 ?_
          refine lv_istore (lv' := [(8, .int (4 * (nI (i + 1)))), (6, .long 0), (4, .long ct), (0, .ref (al 8 0)), (1, .int (nI (i + 1))), (2, .long ct)]) hx hb dX5_claim_58 hl (by decide) rfl (fun ls hl => ?_)
          refine w_loop (hd := 60) (stk := []) (X := Nat) (fun k => p - k) (fun k ls H locs => Inv D dA lo al σ ((mTk (uI μ 8 0 0 0) (i + 1) ct k).1) H ∧ va_S (fun q => lo ≤ q) s.heap H locs ∧ (k ≤ p) ∧ lv_has ls 12 [(8, .int (nI (4 * (i + 1) + k))), (6, .long (mTk (uI μ 8 0 0 0) (i + 1) ct k).2.2), (4, .long (mTk (uI μ 8 0 0 0) (i + 1) ct k).2.1), (1, .int (nI (i + 1))), (0, .ref (al 8 0))]) (fun k ls H locs hk ih_60 => ?_) 0 ls _ _ ⟨hI, hS, Nat.zero_le _, (by have h9 := lv_sub hl [0, 1, 2, 4, 3] rfl; rw [i4mul] at h9; exact h9)⟩
          obtain ⟨hI, hS, hk, hl⟩ := hk
          have hl : lv_has ls 12 [(8, .int (nI (4 * (i + 1) + k))), (6, .long (mTk (uI μ 8 0 0 0) (i + 1) ct k).2.2), (4, .long (mTk (uI μ 8 0 0 0) (i + 1) ct k).2.1), (1, .int (nI (i + 1))), (0, .ref (al 8 0))] := hl
          have hpk : fI (mTk (uI μ 8 0 0 0) (i + 1) ct k).1 9 15 (i + 1) = nI p := by rw [mTk_I (by decide)]; exact hpp
          refine lv_iload hx hb dX5_claim_60 (lv_at hl 0 rfl) ?_
          refine lv_iconst (v := 4) hx hb dX5_claim_62 (by decide) ?_
          refine lv_iload_n hx hb dX5_claim_63 rfl (lv_at hl 3 rfl) ?_
          refine lv_imul hx hb dX5_claim_64 ?_
          refine W.eq (g2 := F0 m 65 ls (.int (nI (4 * (i + 1))) :: [.int (nI (4 * (i + 1) + k))])) (by rw [i4mul]) ?_
          refine lv_aload_n hx hb dX5_claim_65 rfl (lv_at hl 4 rfl) ?_
          refine sx_get (ci := 5) (C := RX5) (T := TX5) (N := 24) (v := .ref (al 9 15)) hx hb hts inX5 hown hK (c8_at hI) rfl 19 (by decide) (hts _ w_3_55) rfl rfl dX5_claim_66 ?_
          refine lv_iload_n hx hb dX5_claim_69 rfl (lv_at hl 3 rfl) ?_
          refine sx_iald hx hb hK (c9_15_at hI) 0 rfl hvx dX5_claim_70 ?_
          rw [hcx]
          refine lv_iadd hx hb dX5_claim_71 ?_
          refine W.eq (g2 := F0 m 72 ls (.int (nI (4 * (i + 1) + p)) :: [.int (nI (4 * (i + 1) + k))])) (by rw [hpk, nI_add]) ?_
          refine lv_icmp_ge (tgt := 195) hx hb dX5_claim_72 (by decide) (fun c_72 => ?_) (fun c_72 => ?_)
          · have hj9 : k = p := by
              have := lp_end (x := nI (4 * (i + 1) + p)) rfl c_72 (by omega) (by omega)
              omega
            subst hj9
            refine lv_aload_n hx hb dX5_claim_195 rfl (lv_at hl 4 rfl) ?_
            refine sx_get (ci := 5) (C := RX5) (T := TX5) (N := 24) (v := .ref (al 9 14)) hx hb hts inX5 hown hK (c8_at hI) rfl 18 (by decide) (hts _ w_3_54) rfl rfl dX5_claim_196 ?_
            refine lv_iload_n hx hb dX5_claim_199 rfl (lv_at hl 3 rfl) ?_
            refine lv_iconst (v := 3) hx hb dX5_claim_200 (by decide) ?_
            refine sx_iast hx hb hK hS (c9_14_at hI) (c9_14_lo hI) 0 rfl hvx dX5_claim_201 (fun H locs hq => ?_)
            rw [hcx] at hq
            have hI := c9_14_uI (f := i + 1) (v := 3) hI hq
            have hS := hq.2.2.2
            refine lv_aload_n hx hb dX5_claim_202 rfl (lv_at hl 4 rfl) ?_
            refine sx_get (ci := 5) (C := RX5) (T := TX5) (N := 24) (v := .ref (al 9 15)) hx hb hts inX5 hown hK (c8_at hI) rfl 19 (by decide) (hts _ w_3_55) rfl rfl dX5_claim_203 ?_
            refine lv_iload_n hx hb dX5_claim_206 rfl (lv_at hl 3 rfl) ?_
            refine lv_iconst (v := 0) hx hb dX5_claim_207 (by decide) ?_
            refine sx_iast hx hb hK hS (c9_15_at hI) (c9_15_lo hI) 0 rfl hvx dX5_claim_208 (fun H locs hq => ?_)
            rw [hcx] at hq
            have hI := c9_15_uI (f := i + 1) (v := 0) hI hq
            have hS := hq.2.2.2
            refine lv_lload hx hb dX5_claim_209 (lv_at hl 1 rfl) ?_
            exact W.lret (v := (mTk (uI μ 8 0 0 0) (i + 1) ct k).2.2) hx hb hr (fun t ht hW => ⟨⟨(mTk (uI μ 8 0 0 0) (i + 1) ct k).2.2, uI (uI (mTk (uI μ 8 0 0 0) (i + 1) ct k).1 9 14 (i + 1) 3) 9 15 (i + 1) 0, rfl, (by unfold cClmM; rw [hix]; simp only [if_pos c_11, if_pos (run_le2 c_32), if_pos (show ct ≤ mCov μ (i + 1) (mP μ (i + 1)) by rw [hmp, ← mCov_th (y := 0)]; exact c_42)]; rw [hmp]), iv_giveM ht hI⟩, hS.F ht⟩) hS.2.2 dX5_claim_211
          · have hlt : k < p := by
              have := lp_lt (x := nI (4 * (i + 1) + p)) rfl c_72 (by omega)
              omega
            have hck : (nI (4 * (i + 1) + k)).toNatClampNeg = 4 * (i + 1) + k := nI_clamp (by omega)
            have hvk : vp_in (nI (4 * (i + 1) + k)) 244 := vp_in_nI (by omega) (by decide)
            obtain ⟨g, hg1, hgn9, hpg⟩ := hpr (i + 1) k (by omega) (by omega) (by rw [hmp]; exact hlt)
            have hpg : fI (mTk (uI μ 8 0 0 0) (i + 1) ct k).1 9 16 (4 * (i + 1) + k) = nI g := by rw [mTk_I (by decide)]; exact hpg
            have hcg : (nI g).toNatClampNeg = g := nI_clamp (by omega)
            have hG : mTkG (mTk (uI μ 8 0 0 0) (i + 1) ct k).1 (i + 1) k = g := by unfold mTkG; rw [hpg]; exact hcg
            refine lv_aload_n hx hb dX5_claim_75 rfl (lv_at hl 4 rfl) ?_
            refine sx_get (ci := 5) (C := RX5) (T := TX5) (N := 24) (v := .ref (al 9 16)) hx hb hts inX5 hown hK (c8_at hI) rfl 20 (by decide) (hts _ w_3_56) rfl rfl dX5_claim_76 ?_
            refine lv_iload hx hb dX5_claim_79 (lv_at hl 0 rfl) ?_
            refine sx_iald hx hb hK (c9_16_at hI) 0 rfl hvk dX5_claim_81 ?_
            rw [hck]
            refine W.eq (g2 := F0 m 82 ls (.int (nI g) :: [])) (by rw [hpg]) ?_
            refine lv_istore (lv' := [(9, .int (nI g)), (8, .int (nI (4 * (i + 1) + k))), (6, .long (mTk (uI μ 8 0 0 0) (i + 1) ct k).2.2), (4, .long (mTk (uI μ 8 0 0 0) (i + 1) ct k).2.1), (1, .int (nI (i + 1))), (0, .ref (al 8 0))]) hx hb dX5_claim_82 hl (by decide) rfl (fun ls hl => ?_)
            refine jn_l (tgt := 109) (rest := []) (ls := ls) (P := fun b9 => b9 = mMin (fL (mTk (uI μ 8 0 0 0) (i + 1) ct k).1 9 17 (4 * (i + 1) + k)) (mTk (uI μ 8 0 0 0) (i + 1) ct k).2.1) (fun J_84 => ?_) (fun b9 hb9 => ?_)
            · refine lv_aload_n hx hb dX5_claim_84 rfl (lv_at hl 5 rfl) ?_
              refine sx_get (ci := 5) (C := RX5) (T := TX5) (N := 24) (v := .ref (al 9 17)) hx hb hts inX5 hown hK (c8_at hI) rfl 21 (by decide) (hts _ w_3_57) rfl rfl dX5_claim_85 ?_
              refine lv_iload hx hb dX5_claim_88 (lv_at hl 1 rfl) ?_
              refine sx_lald hx hb hK (c9_17_at hI) 1 rfl hvk dX5_claim_90 ?_
              rw [hck]
              refine lv_lload hx hb dX5_claim_91 (lv_at hl 3 rfl) ?_
              refine W.lcmp hx hb dX5_claim_93 ?_
              refine lv_if_ge (tgt := 107) hx hb dX5_claim_94 (by decide) (fun c_94 => ?_) (fun c_94 => ?_)
              · have c_94 : (mTk (uI μ 8 0 0 0) (i + 1) ct k).2.1 ≤ (fL (mTk (uI μ 8 0 0 0) (i + 1) ct k).1 9 17 (4 * (i + 1) + k)) := (lg_cmp_ge _ _).mp c_94
                refine lv_lload hx hb dX5_claim_107 (lv_at hl 3 rfl) ?_
                exact J_84 _ (by unfold mMin; rw [if_pos c_94])
              · have c_94 : ¬ (mTk (uI μ 8 0 0 0) (i + 1) ct k).2.1 ≤ (fL (mTk (uI μ 8 0 0 0) (i + 1) ct k).1 9 17 (4 * (i + 1) + k)) := fun h => c_94 ((lg_cmp_ge _ _).mpr h)
                refine lv_aload_n hx hb dX5_claim_97 rfl (lv_at hl 5 rfl) ?_
                refine sx_get (ci := 5) (C := RX5) (T := TX5) (N := 24) (v := .ref (al 9 17)) hx hb hts inX5 hown hK (c8_at hI) rfl 21 (by decide) (hts _ w_3_57) rfl rfl dX5_claim_98 ?_
                refine lv_iload hx hb dX5_claim_101 (lv_at hl 1 rfl) ?_
                refine sx_lald hx hb hK (c9_17_at hI) 1 rfl hvk dX5_claim_103 ?_
                rw [hck]
                refine lv_goto (tgt := 109) hx hb dX5_claim_104 (by decide) ?_
                exact J_84 _ (by unfold mMin; rw [if_neg c_94])
            · subst hb9
              refine lv_lstore (lv' := [(10, .long (mMin (fL (mTk (uI μ 8 0 0 0) (i + 1) ct k).1 9 17 (4 * (i + 1) + k)) (mTk (uI μ 8 0 0 0) (i + 1) ct k).2.1)), (9, .int (nI g)), (8, .int (nI (4 * (i + 1) + k))), (6, .long (mTk (uI μ 8 0 0 0) (i + 1) ct k).2.2), (4, .long (mTk (uI μ 8 0 0 0) (i + 1) ct k).2.1), (1, .int (nI (i + 1))), (0, .ref (al 8 0))]) hx hb dX5_claim_109 hl (by decide) rfl (fun ls hl => ?_)
              refine lv_lload hx hb dX5_claim_111 (lv_at hl 4 rfl) ?_
              refine lv_lload hx hb dX5_claim_113 (lv_at hl 0 rfl) ?_
              refine lv_lsub hx hb dX5_claim_115 ?_
              refine lv_lstore (lv' := [(4, .long ((mTk (uI μ 8 0 0 0) (i + 1) ct k).2.1 - (mMin (fL (mTk (uI μ 8 0 0 0) (i + 1) ct k).1 9 17 (4 * (i + 1) + k)) (mTk (uI μ 8 0 0 0) (i + 1) ct k).2.1))), (10, .long (mMin (fL (mTk (uI μ 8 0 0 0) (i + 1) ct k).1 9 17 (4 * (i + 1) + k)) (mTk (uI μ 8 0 0 0) (i + 1) ct k).2.1)), (9, .int (nI g)), (8, .int (nI (4 * (i + 1) + k))), (6, .long (mTk (uI μ 8 0 0 0) (i + 1) ct k).2.2), (1, .int (nI (i + 1))), (0, .ref (al 8 0))]) hx hb dX5_claim_116 hl (by decide) rfl (fun ls hl => ?_)
              refine jn_l (tgt := 143) (rest := []) (ls := ls) (P := fun b9 => b9 = mTkX (mTk (uI μ 8 0 0 0) (i + 1) ct k).1 (i + 1) k (mTk (uI μ 8 0 0 0) (i + 1) ct k).2.1) (fun J_118 => ?_) (fun b9 hb9 => ?_)
              · refine lv_lload hx hb dX5_claim_118 (lv_at hl 1 rfl) ?_
                refine lv_aload_n hx hb dX5_claim_120 rfl (lv_at hl 6 rfl) ?_
                refine sx_get (ci := 5) (C := RX5) (T := TX5) (N := 24) (v := .ref (al 9 1)) hx hb hts inX5 hown hK (c8_at hI) rfl 4 (by decide) (hts _ w_3_40) rfl rfl dX5_claim_121 ?_
                refine lv_iload hx hb dX5_claim_124 (lv_at hl 2 rfl) ?_
                refine sx_lald hx hb hK (c9_1_at hI) 1 rfl (vp_in_nI (show g < 21 by omega) (by decide)) dX5_claim_126 ?_
                rw [hcg]
                refine W.lcmp hx hb dX5_claim_127 ?_
                refine lv_if_ge (tgt := 136) hx hb dX5_claim_128 (by decide) (fun c_128 => ?_) (fun c_128 => ?_)
                · have c_128 : (fL (mTk (uI μ 8 0 0 0) (i + 1) ct k).1 9 1 g) ≤ (mMin (fL (mTk (uI μ 8 0 0 0) (i + 1) ct k).1 9 17 (4 * (i + 1) + k)) (mTk (uI μ 8 0 0 0) (i + 1) ct k).2.1) := (lg_cmp_ge _ _).mp c_128
                  refine lv_aload_n hx hb dX5_claim_136 rfl (lv_at hl 6 rfl) ?_
                  refine sx_get (ci := 5) (C := RX5) (T := TX5) (N := 24) (v := .ref (al 9 1)) hx hb hts inX5 hown hK (c8_at hI) rfl 4 (by decide) (hts _ w_3_40) rfl rfl dX5_claim_137 ?_
                  refine lv_iload hx hb dX5_claim_140 (lv_at hl 2 rfl) ?_
                  refine sx_lald hx hb hK (c9_1_at hI) 1 rfl (vp_in_nI (show g < 21 by omega) (by decide)) dX5_claim_142 ?_
                  rw [hcg]
                  exact J_118 _ (by unfold mTkX; rw [hG, if_pos c_128])
                · have c_128 : ¬ (fL (mTk (uI μ 8 0 0 0) (i + 1) ct k).1 9 1 g) ≤ (mMin (fL (mTk (uI μ 8 0 0 0) (i + 1) ct k).1 9 17 (4 * (i + 1) + k)) (mTk (uI μ 8 0 0 0) (i + 1) ct k).2.1) := fun h => c_128 ((lg_cmp_ge _ _).mpr h)
                  refine lv_lload hx hb dX5_claim_131 (lv_at hl 1 rfl) ?_
                  refine lv_goto (tgt := 143) hx hb dX5_claim_133 (by decide) ?_
                  exact J_118 _ (by unfold mTkX; rw [hG, if_neg c_128])
              · subst hb9
                refine lv_lstore (lv' := [(10, .long (mTkX (mTk (uI μ 8 0 0 0) (i + 1) ct k).1 (i + 1) k (mTk (uI μ 8 0 0 0) (i + 1) ct k).2.1)), (4, .long ((mTk (uI μ 8 0 0 0) (i + 1) ct k).2.1 - (mMin (fL (mTk (uI μ 8 0 0 0) (i + 1) ct k).1 9 17 (4 * (i + 1) + k)) (mTk (uI μ 8 0 0 0) (i + 1) ct k).2.1))), (9, .int (nI g)), (8, .int (nI (4 * (i + 1) + k))), (6, .long (mTk (uI μ 8 0 0 0) (i + 1) ct k).2.2), (1, .int (nI (i + 1))), (0, .ref (al 8 0))]) hx hb dX5_claim_143 hl (by decide) rfl (fun ls hl => ?_)
                refine lv_lload hx hb dX5_claim_145 (lv_at hl 0 rfl) ?_
                refine lv_lconst (v := 0) hx hb dX5_claim_147 (by decide) ?_
                refine W.lcmp hx hb dX5_claim_148 ?_
                refine lv_if_le (tgt := 189) hx hb dX5_claim_149 (by decide) (fun c_149 => ?_) (fun c_149 => ?_)
                · have c_149 : (mTkX (mTk (uI μ 8 0 0 0) (i + 1) ct k).1 (i + 1) k (mTk (uI μ 8 0 0 0) (i + 1) ct k).2.1) ≤ 0 := (lg_cmp_le _ _).mp c_149
                  refine lv_iinc (v := (nI (4 * (i + 1) + k)) + 1) (lv' := [(8, .int ((nI (4 * (i + 1) + k)) + 1)), (10, .long (mTkX (mTk (uI μ 8 0 0 0) (i + 1) ct k).1 (i + 1) k (mTk (uI μ 8 0 0 0) (i + 1) ct k).2.1)), (4, .long ((mTk (uI μ 8 0 0 0) (i + 1) ct k).2.1 - (mMin (fL (mTk (uI μ 8 0 0 0) (i + 1) ct k).1 9 17 (4 * (i + 1) + k)) (mTk (uI μ 8 0 0 0) (i + 1) ct k).2.1))), (9, .int (nI g)), (6, .long (mTk (uI μ 8 0 0 0) (i + 1) ct k).2.2), (1, .int (nI (i + 1))), (0, .ref (al 8 0))]) hx hb dX5_claim_189 hl (k := 3) rfl rfl (by decide) rfl (fun ls hl => ?_)
                  refine lv_goto (tgt := 60) hx hb dX5_claim_192 (by decide) ?_
                  have e9 : mTk (uI μ 8 0 0 0) (i + 1) ct (k + 1) = ((mTk (uI μ 8 0 0 0) (i + 1) ct k).1, (mTk (uI μ 8 0 0 0) (i + 1) ct k).2.1 - mMin (fL (mTk (uI μ 8 0 0 0) (i + 1) ct k).1 9 17 (4 * (i + 1) + k)) (mTk (uI μ 8 0 0 0) (i + 1) ct k).2.1, (mTk (uI μ 8 0 0 0) (i + 1) ct k).2.2) := by rw [mTk, if_pos c_149]
                  exact ih_60 (k + 1) ls _ _ (by omega) ⟨(by rw [e9]; exact hI), hS, hlt, (by have h9 := lv_sub hl [0, 4, 2, 5, 6] rfl; rw [nI_1] at h9; rw [e9]; exact h9)⟩
                · have c_149 : ¬ (mTkX (mTk (uI μ 8 0 0 0) (i + 1) ct k).1 (i + 1) k (mTk (uI μ 8 0 0 0) (i + 1) ct k).2.1) ≤ 0 := fun h => c_149 ((lg_cmp_le _ _).mpr h)
                  refine lv_aload_n hx hb dX5_claim_152 rfl (lv_at hl 6 rfl) ?_
                  refine lv_iload hx hb dX5_claim_153 (lv_at hl 2 rfl) ?_
                  refine va_callv (va_runV (As := [.int (nI g)]) (rest := []) ⟨hx, hb, hml, hown, hts⟩ (m_endRow l D dA sa lo al σ (mTk (uI μ 8 0 0 0) (i + 1) ct k).1 g (by omega)) (cwV 1 hts (gdV w_3_202 w_3_204 wp_21 w_1_3 w_3_205) rfl rfl rfl (by decide +kernel) ⟨Nat.le_of_ble_eq_true rfl, Nat.le_of_ble_eq_true rfl⟩) ⟨iv_bl, sx_recv hK (c8_at hI) rfl, fun U hU hW => ⟨rfl, iv_use hI hwd hS hU hW⟩⟩ rfl rfl hl.1 rfl (lv_room (Nat.le_of_ble_eq_true rfl)) dX5_claim_155 ⟨Nat.le_of_ble_eq_true rfl, Nat.le_of_ble_eq_true rfl⟩) hS (fun q _ h => h) (fun q h => h) (fun u9 T9 H1 locs ht9 hvm9 e_155 hB9 hz9 hk9 hS => ?_)
                  have hI := iv_takeM ht9 hB9
                  clear hB9 hk9
                  obtain rfl := e_155
                  refine lv_aload_n hx hb dX5_claim_158 rfl (lv_at hl 6 rfl) ?_
                  refine sx_get (ci := 5) (C := RX5) (T := TX5) (N := 24) (v := .ref (al 9 1)) hx hb hts inX5 hown hK (c8_at hI) rfl 4 (by decide) (hts _ w_3_40) rfl rfl dX5_claim_159 ?_
                  refine lv_iload hx hb dX5_claim_162 (lv_at hl 2 rfl) ?_
                  refine lv_dup2_11 hx hb dX5_claim_164 rfl rfl ?_
                  refine sx_lald hx hb hK (c9_1_at hI) 1 rfl (vp_in_nI (show g < 21 by omega) (by decide)) dX5_claim_165 ?_
                  rw [hcg]
                  refine lv_lload hx hb dX5_claim_166 (lv_at hl 0 rfl) ?_
                  refine lv_lsub hx hb dX5_claim_168 ?_
                  refine sx_last hx hb hK hS (c9_1_at hI) (c9_1_lo hI) 1 rfl (vp_in_nI (show g < 21 by omega) (by decide)) dX5_claim_169 (fun H locs hq => ?_)
                  rw [hcg] at hq
                  have hI := c9_1_uL (f := g) (v := (fL (mEnd (mTk (uI μ 8 0 0 0) (i + 1) ct k).1 g) 9 1 g) - (mTkX (mTk (uI μ 8 0 0 0) (i + 1) ct k).1 (i + 1) k (mTk (uI μ 8 0 0 0) (i + 1) ct k).2.1)) hI hq
                  have hS := hq.2.2.2
                  refine lv_aload_n hx hb dX5_claim_170 rfl (lv_at hl 6 rfl) ?_
                  refine sx_get (ci := 5) (C := RX5) (T := TX5) (N := 24) (v := .ref (al 9 8)) hx hb hts inX5 hown hK (c8_at hI) rfl 11 (by decide) (hts _ w_3_47) rfl rfl dX5_claim_171 ?_
                  refine lv_iload hx hb dX5_claim_174 (lv_at hl 2 rfl) ?_
                  refine lv_dup2_11 hx hb dX5_claim_176 rfl rfl ?_
                  refine sx_lald hx hb hK (c9_8_at hI) 1 rfl (vp_in_nI (show g < 21 by omega) (by decide)) dX5_claim_177 ?_
                  rw [hcg]
                  refine W.eq (g2 := F0 m 178 ls (.long (fL (mEnd (mTk (uI μ 8 0 0 0) (i + 1) ct k).1 g) 9 8 g) :: [.int (nI g), .ref (al 9 8)])) rfl ?_
                  refine lv_lload hx hb dX5_claim_178 (lv_at hl 0 rfl) ?_
                  refine lv_ladd hx hb dX5_claim_180 ?_
                  refine sx_last hx hb hK hS (c9_8_at hI) (c9_8_lo hI) 1 rfl (vp_in_nI (show g < 21 by omega) (by decide)) dX5_claim_181 (fun H locs hq => ?_)
                  rw [hcg] at hq
                  have hI := c9_8_uL (f := g) (v := (fL (mEnd (mTk (uI μ 8 0 0 0) (i + 1) ct k).1 g) 9 8 g) + (mTkX (mTk (uI μ 8 0 0 0) (i + 1) ct k).1 (i + 1) k (mTk (uI μ 8 0 0 0) (i + 1) ct k).2.1)) hI hq
                  have hS := hq.2.2.2
                  refine lv_lload hx hb dX5_claim_182 (lv_at hl 4 rfl) ?_
                  refine lv_lload hx hb dX5_claim_184 (lv_at hl 0 rfl) ?_
                  refine lv_ladd hx hb dX5_claim_186 ?_
                  refine lv_lstore (lv' := [(6, .long ((mTk (uI μ 8 0 0 0) (i + 1) ct k).2.2 + (mTkX (mTk (uI μ 8 0 0 0) (i + 1) ct k).1 (i + 1) k (mTk (uI μ 8 0 0 0) (i + 1) ct k).2.1))), (10, .long (mTkX (mTk (uI μ 8 0 0 0) (i + 1) ct k).1 (i + 1) k (mTk (uI μ 8 0 0 0) (i + 1) ct k).2.1)), (4, .long ((mTk (uI μ 8 0 0 0) (i + 1) ct k).2.1 - (mMin (fL (mTk (uI μ 8 0 0 0) (i + 1) ct k).1 9 17 (4 * (i + 1) + k)) (mTk (uI μ 8 0 0 0) (i + 1) ct k).2.1))), (9, .int (nI g)), (8, .int (nI (4 * (i + 1) + k))), (1, .int (nI (i + 1))), (0, .ref (al 8 0))]) hx hb dX5_claim_187 hl (by decide) rfl (fun ls hl => ?_)
                  refine lv_iinc (v := (nI (4 * (i + 1) + k)) + 1) (lv' := [(8, .int ((nI (4 * (i + 1) + k)) + 1)), (6, .long ((mTk (uI μ 8 0 0 0) (i + 1) ct k).2.2 + (mTkX (mTk (uI μ 8 0 0 0) (i + 1) ct k).1 (i + 1) k (mTk (uI μ 8 0 0 0) (i + 1) ct k).2.1))), (10, .long (mTkX (mTk (uI μ 8 0 0 0) (i + 1) ct k).1 (i + 1) k (mTk (uI μ 8 0 0 0) (i + 1) ct k).2.1)), (4, .long ((mTk (uI μ 8 0 0 0) (i + 1) ct k).2.1 - (mMin (fL (mTk (uI μ 8 0 0 0) (i + 1) ct k).1 9 17 (4 * (i + 1) + k)) (mTk (uI μ 8 0 0 0) (i + 1) ct k).2.1))), (9, .int (nI g)), (1, .int (nI (i + 1))), (0, .ref (al 8 0))]) hx hb dX5_claim_189 hl (k := 4) rfl rfl (by decide) rfl (fun ls hl => ?_)
                  refine lv_goto (tgt := 60) hx hb dX5_claim_192 (by decide) ?_
                  have e9 : mTk (uI μ 8 0 0 0) (i + 1) ct (k + 1) = (mLose (mTk (uI μ 8 0 0 0) (i + 1) ct k).1 g (mTkX (mTk (uI μ 8 0 0 0) (i + 1) ct k).1 (i + 1) k (mTk (uI μ 8 0 0 0) (i + 1) ct k).2.1), (mTk (uI μ 8 0 0 0) (i + 1) ct k).2.1 - mMin (fL (mTk (uI μ 8 0 0 0) (i + 1) ct k).1 9 17 (4 * (i + 1) + k)) (mTk (uI μ 8 0 0 0) (i + 1) ct k).2.1, (mTk (uI μ 8 0 0 0) (i + 1) ct k).2.2 + mTkX (mTk (uI μ 8 0 0 0) (i + 1) ct k).1 (i + 1) k (mTk (uI μ 8 0 0 0) (i + 1) ct k).2.1) := by rw [mTk, if_neg c_149, hG]
                  exact ih_60 (k + 1) ls _ _ (by omega) ⟨(by rw [e9]; exact hI), hS, hlt, (by have h9 := lv_sub hl [0, 1, 3, 5, 6] rfl; rw [nI_1] at h9; rw [e9]; exact h9)⟩
        · have c_42 : ¬ ct ≤ (mCov (uI μ 8 0 0 0) (i + 1) p) := fun h => c_42 ((lg_cmp_ge _ _).mpr h)
          refine lv_ldc2 (v := (-1)) hx hb hown (hts _ w_3_171) dX5_claim_45 ?_
          exact W.lret (v := (-1)) hx hb hr (fun t ht hW => ⟨⟨(-1), uI μ 8 0 0 0, rfl, (by unfold cClmM; rw [hix]; simp only [if_pos c_11, if_pos (run_le2 c_32), if_neg (show ¬ ct ≤ mCov μ (i + 1) (mP μ (i + 1)) by rw [hmp, ← mCov_th (y := 0)]; exact c_42)]), iv_giveM ht hI⟩, hS.F ht⟩) hS.2.2 dX5_claim_48
    · have c_11 : ¬ 1 ≤ ct := fun h => c_11 ((lg_cmp_ge _ _).mpr h)
      refine lv_aload_n hx hb dX5_claim_14 rfl (lv_at hl 0 rfl) ?_
      refine lv_iconst (v := 1) hx hb dX5_claim_15 (by decide) ?_
      refine va_calli (va_runV (As := [.int 1]) (rest := []) ⟨hx, hb, hml, hown, hts⟩ (m_refuse l D dA sa lo al σ μ 1) (cwV 1 hts (gdV w_3_126 w_3_128 wp_10 w_1_3 w_3_129) rfl rfl rfl (by decide +kernel) ⟨Nat.le_of_ble_eq_true rfl, Nat.le_of_ble_eq_true rfl⟩) ⟨iv_bl, sx_recv hK (c8_at hI) rfl, fun U hU hW => ⟨rfl, iv_use hI hwd hS hU hW⟩⟩ rfl rfl hl.1 rfl (lv_room (Nat.le_of_ble_eq_true rfl)) dX5_claim_16 ⟨Nat.le_of_ble_eq_true rfl, Nat.le_of_ble_eq_true rfl⟩) hS (fun q _ h => h) (fun q h => h) (fun r_16 u9 T9 H1 locs ht9 hvm9 e_16 hB9 hz9 hk9 hS => ?_)
      have hI := iv_takeM ht9 hB9
      clear hB9 hk9
      obtain ⟨rfl, rfl⟩ := e_16
      refine lv_i2l hx hb dX5_claim_19 rfl ?_
      exact W.lret (v := (0 : Int32).toInt64) hx hb hr (fun t ht hW => ⟨⟨(0 : Int32).toInt64, uI μ 8 0 0 1, rfl, (by unfold cClmM; rcases hq9 : gIx x r with _ | i9 <;> simp only [] <;> (try rw [if_neg c_11]) <;> rfl), iv_giveM ht hI⟩, hS.F ht⟩) hS.2.2 dX5_claim_20

set_option maxHeartbeats 4000000 in
set_option maxRecDepth 100000 in
theorem m_look (l : Launch) (D : va_G) (dA : Nat → ClassId) (sa : Nat → Nat) (lo : Nat) (al : Nat → Nat → Nat) (σ μ : CS) (x w : Int32) (n r : Nat) (hw : WFm μ n r) : Met l yX5_look wsX5_look ({ frames := 4, cells := 0, slots := 0, locals := 120 }) (va_Pc [.ref (al 8 0), .int x, .int w] (ivP D dA sa lo al σ μ)) (va_Ql (fun z9 u => (z9, u) = cLookM μ n r x w) (ivM D dA lo al σ) (fun q => lo ≤ q)) 0 0 (fun q => lo ≤ q) := by
  refine Met.ofW (cc := cX5_look) (maxL := 5) (ret := some .long) (by decide) rfl ?_
  intro p e s m args below meth c s₁ B hml hv
  obtain ⟨rfl, hI, hwd⟩ := hv
  have hx := B.exec
  have hb := B.bytes
  have hr := B.returns
  have hts : ∀ w ∈ WSall, w.before _ s = true := fun w h => atoms_spec (ws := wsX5_look) B.pre w (List.mem_cons_of_mem _ h)
  have hown : s.vm.findClass RX5 = some m.cls := findClass_of_methodNamed B.named
  have hlocks := B.notSynchronized
  have hK := hwd.1
  have hS : va_S (fun q => lo ≤ q) s.heap s.heap [] := va_S.rf
  have hl := lv_entry ([.ref (al 8 0), .int x, .int w]) (n := 5) (Nat.le_of_ble_eq_true rfl)
  rw [lg_entry_eq]
  generalize (lg_sl ([.ref (al 8 0), .int x, .int w]) ++ List.replicate (5 - (lg_sl ([.ref (al 8 0), .int x, .int w])).length) Slot.unset).toArray = ls at hl ⊢
  have hl : lv_has ls 5 [(0, .ref (al 8 0)), (1, .int x), (2, .int w)] := hl
  obtain ⟨hn20, hr60, hgn, hrn, hor, hpt, hpr, hdn⟩ := id hw
  refine lv_aload_n hx hb dX5_look_0 rfl (lv_at hl 0 rfl) ?_
  refine lv_iload_n hx hb dX5_look_1 rfl (lv_at hl 1 rfl) ?_
  refine vp_callSi (W.runV (As := [.int x]) (rest := []) ⟨hx, hb, hml, hown, hts⟩ (m_isGuarantee l D dA sa lo al σ μ x) (cwV 1 hts (gdV w_3_138 w_3_140 wp_11 w_1_3 w_3_141) rfl rfl rfl (by decide +kernel) ⟨Nat.le_of_ble_eq_true rfl, Nat.le_of_ble_eq_true rfl⟩) ⟨iv_bl, sx_recv hK (c8_at hI) rfl, fun U hU hW => ⟨rfl, iv_use hI hwd hS hU hW⟩⟩ rfl rfl hl.1 rfl (lv_room (Nat.le_of_ble_eq_true rfl)) dX5_look_2 ⟨Nat.le_of_ble_eq_true rfl, Nat.le_of_ble_eq_true rfl⟩) (fun r_2 e_2 => ?_)
  subst e_2
  refine lv_if_eq (tgt := 18) hx hb dX5_look_5 (by decide) (fun c_5 => ?_) (fun c_5 => ?_)
  · have c_5 := bp_0.mp c_5
    refine lv_aload_n hx hb dX5_look_18 rfl (lv_at hl 0 rfl) ?_
    refine lv_iconst (v := 1) hx hb dX5_look_19 (by decide) ?_
    refine va_calli (va_runV (As := [.int 1]) (rest := []) ⟨hx, hb, hml, hown, hts⟩ (m_refuse l D dA sa lo al σ μ 1) (cwV 1 hts (gdV w_3_126 w_3_128 wp_10 w_1_3 w_3_129) rfl rfl rfl (by decide +kernel) ⟨Nat.le_of_ble_eq_true rfl, Nat.le_of_ble_eq_true rfl⟩) ⟨iv_bl, sx_recv hK (c8_at hI) rfl, fun U hU hW => ⟨rfl, iv_use hI hwd hS hU hW⟩⟩ rfl rfl hl.1 rfl (lv_room (Nat.le_of_ble_eq_true rfl)) dX5_look_20 ⟨Nat.le_of_ble_eq_true rfl, Nat.le_of_ble_eq_true rfl⟩) hS (fun q _ h => h) (fun q h => h) (fun r_20 u9 T9 H1 locs ht9 hvm9 e_20 hB9 hz9 hk9 hS => ?_)
    have hI := iv_takeM ht9 hB9
    clear hB9 hk9
    obtain ⟨rfl, rfl⟩ := e_20
    refine lv_i2l hx hb dX5_look_23 rfl ?_
    exact W.lret (v := (0 : Int32).toInt64) hx hb hr (fun t ht hW => ⟨⟨(0 : Int32).toInt64, uI μ 8 0 0 1, rfl, (by unfold cLookM; rw [pNum_no hgn c_5] <;> rfl), iv_giveM ht hI⟩, hS.F ht⟩) hS.2.2 dX5_look_24
  · have c_5 := bp_n0.mp c_5
    refine lv_iload_n hx hb dX5_look_8 rfl (lv_at hl 2 rfl) ?_
    refine lv_if_lt (tgt := 18) hx hb dX5_look_9 (by decide) (fun c_9 => ?_) (fun c_9 => ?_)
    · refine lv_aload_n hx hb dX5_look_18 rfl (lv_at hl 0 rfl) ?_
      refine lv_iconst (v := 1) hx hb dX5_look_19 (by decide) ?_
      refine va_calli (va_runV (As := [.int 1]) (rest := []) ⟨hx, hb, hml, hown, hts⟩ (m_refuse l D dA sa lo al σ μ 1) (cwV 1 hts (gdV w_3_126 w_3_128 wp_10 w_1_3 w_3_129) rfl rfl rfl (by decide +kernel) ⟨Nat.le_of_ble_eq_true rfl, Nat.le_of_ble_eq_true rfl⟩) ⟨iv_bl, sx_recv hK (c8_at hI) rfl, fun U hU hW => ⟨rfl, iv_use hI hwd hS hU hW⟩⟩ rfl rfl hl.1 rfl (lv_room (Nat.le_of_ble_eq_true rfl)) dX5_look_20 ⟨Nat.le_of_ble_eq_true rfl, Nat.le_of_ble_eq_true rfl⟩) hS (fun q _ h => h) (fun q h => h) (fun r_20 u9 T9 H1 locs ht9 hvm9 e_20 hB9 hz9 hk9 hS => ?_)
      have hI := iv_takeM ht9 hB9
      clear hB9 hk9
      obtain ⟨rfl, rfl⟩ := e_20
      refine lv_i2l hx hb dX5_look_23 rfl ?_
      exact W.lret (v := (0 : Int32).toInt64) hx hb hr (fun t ht hW => ⟨⟨(0 : Int32).toInt64, uI μ 8 0 0 1, rfl, (by unfold cLookM; rcases hq9 : gIx x n with _ | i9 <;> simp only [if_pos c_9] <;> rfl), iv_giveM ht hI⟩, hS.F ht⟩) hS.2.2 dX5_look_24
    · refine lv_iload_n hx hb dX5_look_12 rfl (lv_at hl 2 rfl) ?_
      refine lv_bipush (v := 8) hx hb dX5_look_13 (by decide) ?_
      refine lv_icmp_le (tgt := 25) hx hb dX5_look_15 (by decide) (fun c_15 => ?_) (fun c_15 => ?_)
      · obtain ⟨i, hi, ex, hix⟩ := pNum_ix hgn (by omega) c_5
        subst ex
        have hcx : (nI (i + 1)).toNatClampNeg = i + 1 := nI_clamp (by omega)
        have hvx : vp_in (nI (i + 1)) 21 := vp_in_nI (by omega) (by decide)
        have hl : lv_has ls 5 [(0, .ref (al 8 0)), (1, .int (nI (i + 1))), (2, .int w)] := hl
        refine lv_aload_n hx hb dX5_look_25 rfl (lv_at hl 0 rfl) ?_
        refine lv_iconst (v := 0) hx hb dX5_look_26 (by decide) ?_
        refine sx_put (ci := 5) (v := .int 0) (ty := .int) (C := RX5) (T := TX5) (N := 24) hx hb hts inX5 tyX5 okX5 nmX5 hown hK hS (c8_at hI) (c8_lo hI) rfl 0 (by decide) (hts _ w_3_36) rfl rfl (by decide +kernel) rfl rfl (Nat.le_of_ble_eq_true rfl) dX5_look_27 (fun H locs hq => ?_)
        have hI := c8_uI (f := 0) (v := 0) hI rfl hq
        have hS := hq.2.2.2
        refine lv_aload_n hx hb dX5_look_30 rfl (lv_at hl 0 rfl) ?_
        refine lv_iload_n hx hb dX5_look_31 rfl (lv_at hl 1 rfl) ?_
        refine vp_callSl (W.runV (As := [.int (nI (i + 1))]) (rest := []) ⟨hx, hb, hml, hown, hts⟩ (m_needed l D dA sa lo al σ (uI μ 8 0 0 0) (i + 1) n r (WFm_th hw) (by omega) (by omega)) (cwV 1 hts (gdV w_3_162 w_3_164 wp_16 w_1_3 w_3_165) rfl rfl rfl (by decide +kernel) ⟨Nat.le_of_ble_eq_true rfl, Nat.le_of_ble_eq_true rfl⟩) ⟨iv_bl, sx_recv hK (c8_at hI) rfl, fun U hU hW => ⟨rfl, iv_use hI hwd hS hU hW⟩⟩ rfl rfl hl.1 rfl (lv_room (Nat.le_of_ble_eq_true rfl)) dX5_look_32 ⟨Nat.le_of_ble_eq_true rfl, Nat.le_of_ble_eq_true rfl⟩) (fun r_32 e_32 => ?_)
        subst e_32
        refine lv_aload_n hx hb dX5_look_35 rfl (lv_at hl 0 rfl) ?_
        refine sx_get (ci := 5) (C := RX5) (T := TX5) (N := 24) (v := .ref (al 9 1)) hx hb hts inX5 hown hK (c8_at hI) rfl 4 (by decide) (hts _ w_3_40) rfl rfl dX5_look_36 ?_
        refine lv_iload_n hx hb dX5_look_39 rfl (lv_at hl 1 rfl) ?_
        refine sx_lald hx hb hK (c9_1_at hI) 1 rfl hvx dX5_look_40 ?_
        rw [hcx]
        refine W.eq (g2 := F0 m 41 ls (.long (fL μ 9 1 (i + 1)) :: [.long (mNd (uI μ 8 0 0 0) (i + 1) r)])) rfl ?_
        refine lv_lsub hx hb dX5_look_41 ?_
        refine lv_lstore_n (lv' := [(3, .long ((mNd (uI μ 8 0 0 0) (i + 1) r) - (fL μ 9 1 (i + 1)))), (0, .ref (al 8 0)), (1, .int (nI (i + 1))), (2, .int w)]) hx hb dX5_look_42 rfl hl (by decide) rfl (fun ls hl => ?_)
        refine lv_iload_n hx hb dX5_look_43 rfl (lv_at hl 3 rfl) ?_
        by_cases c_44_0 : w = 0
        · refine lv_tableIn (tgt := 92) hx hb dX5_look_44 (by rw [c_44_0]; decide) (by rw [c_44_0]; decide) (by rw [c_44_0]; rfl) (by decide) ?_
          refine lv_aload_n hx hb dX5_look_92 rfl (lv_at hl 1 rfl) ?_
          refine sx_get (ci := 5) (C := RX5) (T := TX5) (N := 24) (v := .ref (al 9 0)) hx hb hts inX5 hown hK (c8_at hI) rfl 3 (by decide) (hts _ w_3_39) rfl rfl dX5_look_93 ?_
          refine lv_iload_n hx hb dX5_look_96 rfl (lv_at hl 2 rfl) ?_
          refine sx_iald hx hb hK (c9_0_at hI) 0 rfl hvx dX5_look_97 ?_
          rw [hcx]
          refine W.eq (g2 := F0 m 98 ls (.int (fI μ 9 0 (i + 1)) :: [])) rfl ?_
          refine lv_i2l hx hb dX5_look_98 rfl ?_
          exact W.lret (v := (fI μ 9 0 (i + 1)).toInt64) hx hb hr (fun t ht hW => ⟨⟨(fI μ 9 0 (i + 1)).toInt64, uI μ 8 0 0 0, rfl, (by unfold cLookM; rw [hix]; simp only [if_neg c_9, if_pos c_15, if_pos c_44_0]), iv_giveM ht hI⟩, hS.F ht⟩) hS.2.2 dX5_look_99
        by_cases c_44_1 : w = 1
        · refine lv_tableIn (tgt := 100) hx hb dX5_look_44 (by rw [c_44_1]; decide) (by rw [c_44_1]; decide) (by rw [c_44_1]; rfl) (by decide) ?_
          refine lv_aload_n hx hb dX5_look_100 rfl (lv_at hl 1 rfl) ?_
          refine sx_get (ci := 5) (C := RX5) (T := TX5) (N := 24) (v := .ref (al 9 1)) hx hb hts inX5 hown hK (c8_at hI) rfl 4 (by decide) (hts _ w_3_40) rfl rfl dX5_look_101 ?_
          refine lv_iload_n hx hb dX5_look_104 rfl (lv_at hl 2 rfl) ?_
          refine sx_lald hx hb hK (c9_1_at hI) 1 rfl hvx dX5_look_105 ?_
          rw [hcx]
          refine W.eq (g2 := F0 m 106 ls (.long (fL μ 9 1 (i + 1)) :: [])) rfl ?_
          exact W.lret (v := fL μ 9 1 (i + 1)) hx hb hr (fun t ht hW => ⟨⟨fL μ 9 1 (i + 1), uI μ 8 0 0 0, rfl, (by unfold cLookM; rw [hix]; simp only [if_neg c_9, if_pos c_15, if_neg c_44_0, if_pos c_44_1]), iv_giveM ht hI⟩, hS.F ht⟩) hS.2.2 dX5_look_106
        by_cases c_44_2 : w = 2
        · refine lv_tableIn (tgt := 107) hx hb dX5_look_44 (by rw [c_44_2]; decide) (by rw [c_44_2]; decide) (by rw [c_44_2]; rfl) (by decide) ?_
          refine lv_aload_n hx hb dX5_look_107 rfl (lv_at hl 1 rfl) ?_
          refine lv_iload_n hx hb dX5_look_108 rfl (lv_at hl 2 rfl) ?_
          refine vp_callSl (W.runV (As := [.int (nI (i + 1))]) (rest := []) ⟨hx, hb, hml, hown, hts⟩ (m_needed l D dA sa lo al σ (uI μ 8 0 0 0) (i + 1) n r (WFm_th hw) (by omega) (by omega)) (cwV 1 hts (gdV w_3_162 w_3_164 wp_16 w_1_3 w_3_165) rfl rfl rfl (by decide +kernel) ⟨Nat.le_of_ble_eq_true rfl, Nat.le_of_ble_eq_true rfl⟩) ⟨iv_bl, sx_recv hK (c8_at hI) rfl, fun U hU hW => ⟨rfl, iv_use hI hwd hS hU hW⟩⟩ rfl rfl hl.1 rfl (lv_room (Nat.le_of_ble_eq_true rfl)) dX5_look_109 ⟨Nat.le_of_ble_eq_true rfl, Nat.le_of_ble_eq_true rfl⟩) (fun r_109 e_109 => ?_)
          subst e_109
          exact W.lret (v := mNd (uI μ 8 0 0 0) (i + 1) r) hx hb hr (fun t ht hW => ⟨⟨mNd (uI μ 8 0 0 0) (i + 1) r, uI μ 8 0 0 0, rfl, (by unfold cLookM; rw [hix]; simp only [if_neg c_9, if_pos c_15, if_neg c_44_0, if_neg c_44_1, if_pos c_44_2]), iv_giveM ht hI⟩, hS.F ht⟩) hS.2.2 dX5_look_112
        by_cases c_44_3 : w = 3
        · refine lv_tableIn (tgt := 113) hx hb dX5_look_44 (by rw [c_44_3]; decide) (by rw [c_44_3]; decide) (by rw [c_44_3]; rfl) (by decide) ?_
          refine lv_aload_n hx hb dX5_look_113 rfl (lv_at hl 1 rfl) ?_
          refine lv_iload_n hx hb dX5_look_114 rfl (lv_at hl 2 rfl) ?_
          refine vp_callSl (W.runV (As := [.int (nI (i + 1))]) (rest := []) ⟨hx, hb, hml, hown, hts⟩ (m_freeOf l D dA sa lo al σ (uI μ 8 0 0 0) (i + 1) n r (WFm_th hw) (by omega) (by omega)) (cwV 1 hts (gdV w_3_158 w_3_160 wp_15 w_1_3 w_3_161) rfl rfl rfl (by decide +kernel) ⟨Nat.le_of_ble_eq_true rfl, Nat.le_of_ble_eq_true rfl⟩) ⟨iv_bl, sx_recv hK (c8_at hI) rfl, fun U hU hW => ⟨rfl, iv_use hI hwd hS hU hW⟩⟩ rfl rfl hl.1 rfl (lv_room (Nat.le_of_ble_eq_true rfl)) dX5_look_115 ⟨Nat.le_of_ble_eq_true rfl, Nat.le_of_ble_eq_true rfl⟩) (fun r_115 e_115 => ?_)
          subst e_115
          exact W.lret (v := mFree (uI μ 8 0 0 0) (i + 1) r) hx hb hr (fun t ht hW => ⟨⟨mFree (uI μ 8 0 0 0) (i + 1) r, uI μ 8 0 0 0, rfl, (by unfold cLookM; rw [hix]; simp only [if_neg c_9, if_pos c_15, if_neg c_44_0, if_neg c_44_1, if_neg c_44_2, if_pos c_44_3]), iv_giveM ht hI⟩, hS.F ht⟩) hS.2.2 dX5_look_118
        by_cases c_44_4 : w = 4
        · refine lv_tableIn (tgt := 119) hx hb dX5_look_44 (by rw [c_44_4]; decide) (by rw [c_44_4]; decide) (by rw [c_44_4]; rfl) (by decide) ?_
          refine lv_aload_n hx hb dX5_look_119 rfl (lv_at hl 1 rfl) ?_
          refine lv_iload_n hx hb dX5_look_120 rfl (lv_at hl 2 rfl) ?_
          refine vp_callSl (W.runV (As := [.int (nI (i + 1))]) (rest := []) ⟨hx, hb, hml, hown, hts⟩ (m_may l D dA sa lo al σ (uI μ 8 0 0 0) (i + 1) n r (WFm_th hw) (by omega) (by omega)) (cwV 1 hts (gdV w_3_150 w_3_152 wp_13 w_1_3 w_3_153) rfl rfl rfl (by decide +kernel) ⟨Nat.le_of_ble_eq_true rfl, Nat.le_of_ble_eq_true rfl⟩) ⟨iv_bl, sx_recv hK (c8_at hI) rfl, fun U hU hW => ⟨rfl, iv_use hI hwd hS hU hW⟩⟩ rfl rfl hl.1 rfl (lv_room (Nat.le_of_ble_eq_true rfl)) dX5_look_121 ⟨Nat.le_of_ble_eq_true rfl, Nat.le_of_ble_eq_true rfl⟩) (fun r_121 e_121 => ?_)
          subst e_121
          exact W.lret (v := mMay (uI μ 8 0 0 0) (i + 1) r) hx hb hr (fun t ht hW => ⟨⟨mMay (uI μ 8 0 0 0) (i + 1) r, uI μ 8 0 0 0, rfl, (by unfold cLookM; rw [hix]; simp only [if_neg c_9, if_pos c_15, if_neg c_44_0, if_neg c_44_1, if_neg c_44_2, if_neg c_44_3, if_pos c_44_4]), iv_giveM ht hI⟩, hS.F ht⟩) hS.2.2 dX5_look_124
        by_cases c_44_5 : w = 5
        · refine lv_tableIn (tgt := 125) hx hb dX5_look_44 (by rw [c_44_5]; decide) (by rw [c_44_5]; decide) (by rw [c_44_5]; rfl) (by decide) ?_
          refine lv_aload_n hx hb dX5_look_125 rfl (lv_at hl 1 rfl) ?_
          refine lv_iload_n hx hb dX5_look_126 rfl (lv_at hl 2 rfl) ?_
          refine vp_callSi (W.runV (As := [.int (nI (i + 1))]) (rest := []) ⟨hx, hb, hml, hown, hts⟩ (m_used l D dA sa lo al σ (uI μ 8 0 0 0) (i + 1) n r (WFm_th hw) (by omega) (by omega)) (cwV 1 hts (gdV w_3_154 w_3_156 wp_14 w_1_3 w_3_157) rfl rfl rfl (by decide +kernel) ⟨Nat.le_of_ble_eq_true rfl, Nat.le_of_ble_eq_true rfl⟩) ⟨iv_bl, sx_recv hK (c8_at hI) rfl, fun U hU hW => ⟨rfl, iv_use hI hwd hS hU hW⟩⟩ rfl rfl hl.1 rfl (lv_room (Nat.le_of_ble_eq_true rfl)) dX5_look_127 ⟨Nat.le_of_ble_eq_true rfl, Nat.le_of_ble_eq_true rfl⟩) (fun r_127 e_127 => ?_)
          subst e_127
          refine lv_i2l hx hb dX5_look_130 rfl ?_
          exact W.lret (v := (mUs (uI μ 8 0 0 0) (i + 1) r).toInt64) hx hb hr (fun t ht hW => ⟨⟨(mUs (uI μ 8 0 0 0) (i + 1) r).toInt64, uI μ 8 0 0 0, rfl, (by unfold cLookM; rw [hix]; simp only [if_neg c_9, if_pos c_15, if_neg c_44_0, if_neg c_44_1, if_neg c_44_2, if_neg c_44_3, if_neg c_44_4, if_pos c_44_5]), iv_giveM ht hI⟩, hS.F ht⟩) hS.2.2 dX5_look_131
        by_cases c_44_6 : w = 6
        · refine lv_tableIn (tgt := 132) hx hb dX5_look_44 (by rw [c_44_6]; decide) (by rw [c_44_6]; decide) (by rw [c_44_6]; rfl) (by decide) ?_
          refine lv_aload_n hx hb dX5_look_132 rfl (lv_at hl 1 rfl) ?_
          refine sx_get (ci := 5) (C := RX5) (T := TX5) (N := 24) (v := .ref (al 9 6)) hx hb hts inX5 hown hK (c8_at hI) rfl 9 (by decide) (hts _ w_3_45) rfl rfl dX5_look_133 ?_
          refine lv_iload_n hx hb dX5_look_136 rfl (lv_at hl 2 rfl) ?_
          refine sx_zald hx hb hK (c9_6_at hI) 2 rfl hvx dX5_look_137 ?_
          rw [hcx]
          refine W.eq (g2 := F0 m 138 ls (.int (fI μ 9 6 (i + 1)) :: [])) rfl ?_
          refine lv_if_eq (tgt := 145) hx hb dX5_look_138 (by decide) (fun c_138 => ?_) (fun c_138 => ?_)
          · refine lv_lconst (v := 0) hx hb dX5_look_145 (by decide) ?_
            exact W.lret (v := 0) hx hb hr (fun t ht hW => ⟨⟨0, uI μ 8 0 0 0, rfl, (by unfold cLookM; rw [hix]; simp only [if_neg c_9, if_pos c_15, if_neg c_44_0, if_neg c_44_1, if_neg c_44_2, if_neg c_44_3, if_neg c_44_4, if_neg c_44_5, if_pos c_44_6, if_pos c_138]), iv_giveM ht hI⟩, hS.F ht⟩) hS.2.2 dX5_look_146
          · refine lv_lconst (v := 1) hx hb dX5_look_141 (by decide) ?_
            refine lv_goto (tgt := 146) hx hb dX5_look_142 (by decide) ?_
            exact W.lret (v := 1) hx hb hr (fun t ht hW => ⟨⟨1, uI μ 8 0 0 0, rfl, (by unfold cLookM; rw [hix]; simp only [if_neg c_9, if_pos c_15, if_neg c_44_0, if_neg c_44_1, if_neg c_44_2, if_neg c_44_3, if_neg c_44_4, if_neg c_44_5, if_pos c_44_6, if_neg c_138]), iv_giveM ht hI⟩, hS.F ht⟩) hS.2.2 dX5_look_146
        by_cases c_44_7 : w = 7
        · refine lv_tableIn (tgt := 147) hx hb dX5_look_44 (by rw [c_44_7]; decide) (by rw [c_44_7]; decide) (by rw [c_44_7]; rfl) (by decide) ?_
          refine lv_lload_n hx hb dX5_look_147 rfl (lv_at hl 0 rfl) ?_
          refine lv_lconst (v := 0) hx hb dX5_look_148 (by decide) ?_
          refine W.lcmp hx hb dX5_look_149 ?_
          refine lv_if_le (tgt := 157) hx hb dX5_look_150 (by decide) (fun c_150 => ?_) (fun c_150 => ?_)
          · have c_150 : ((mNd (uI μ 8 0 0 0) (i + 1) r) - (fL μ 9 1 (i + 1))) ≤ 0 := (lg_cmp_le _ _).mp c_150
            refine lv_lconst (v := 0) hx hb dX5_look_157 (by decide) ?_
            exact W.lret (v := 0) hx hb hr (fun t ht hW => ⟨⟨0, uI μ 8 0 0 0, rfl, (by unfold cLookM; rw [hix]; simp only [if_neg c_9, if_pos c_15, if_neg c_44_0, if_neg c_44_1, if_neg c_44_2, if_neg c_44_3, if_neg c_44_4, if_neg c_44_5, if_neg c_44_6, if_pos c_44_7, if_pos c_150]), iv_giveM ht hI⟩, hS.F ht⟩) hS.2.2 dX5_look_158
          · have c_150 : ¬ ((mNd (uI μ 8 0 0 0) (i + 1) r) - (fL μ 9 1 (i + 1))) ≤ 0 := fun h => c_150 ((lg_cmp_le _ _).mpr h)
            refine lv_lload_n hx hb dX5_look_153 rfl (lv_at hl 0 rfl) ?_
            refine lv_goto (tgt := 158) hx hb dX5_look_154 (by decide) ?_
            exact W.lret (v := (mNd (uI μ 8 0 0 0) (i + 1) r) - (fL μ 9 1 (i + 1))) hx hb hr (fun t ht hW => ⟨⟨(mNd (uI μ 8 0 0 0) (i + 1) r) - (fL μ 9 1 (i + 1)), uI μ 8 0 0 0, rfl, (by unfold cLookM; rw [hix]; simp only [if_neg c_9, if_pos c_15, if_neg c_44_0, if_neg c_44_1, if_neg c_44_2, if_neg c_44_3, if_neg c_44_4, if_neg c_44_5, if_neg c_44_6, if_pos c_44_7, if_neg c_150]), iv_giveM ht hI⟩, hS.F ht⟩) hS.2.2 dX5_look_158
        refine lv_tableOut (tgt := 159) hx hb dX5_look_44 (sw_out7 c_44_0 c_44_1 c_44_2 c_44_3 c_44_4 c_44_5 c_44_6 c_44_7) (by decide) ?_
        refine lv_aload_n hx hb dX5_look_159 rfl (lv_at hl 1 rfl) ?_
        refine sx_get (ci := 5) (C := RX5) (T := TX5) (N := 24) (v := .ref (al 9 8)) hx hb hts inX5 hown hK (c8_at hI) rfl 11 (by decide) (hts _ w_3_47) rfl rfl dX5_look_160 ?_
        refine lv_iload_n hx hb dX5_look_163 rfl (lv_at hl 2 rfl) ?_
        refine sx_lald hx hb hK (c9_8_at hI) 1 rfl hvx dX5_look_164 ?_
        rw [hcx]
        refine W.eq (g2 := F0 m 165 ls (.long (fL μ 9 8 (i + 1)) :: [])) rfl ?_
        exact W.lret (v := fL μ 9 8 (i + 1)) hx hb hr (fun t ht hW => ⟨⟨fL μ 9 8 (i + 1), uI μ 8 0 0 0, rfl, (by unfold cLookM; rw [hix]; simp only [if_neg c_9, if_pos c_15, if_neg c_44_0, if_neg c_44_1, if_neg c_44_2, if_neg c_44_3, if_neg c_44_4, if_neg c_44_5, if_neg c_44_6, if_neg c_44_7]), iv_giveM ht hI⟩, hS.F ht⟩) hS.2.2 dX5_look_165
      · refine lv_aload_n hx hb dX5_look_18 rfl (lv_at hl 0 rfl) ?_
        refine lv_iconst (v := 1) hx hb dX5_look_19 (by decide) ?_
        refine va_calli (va_runV (As := [.int 1]) (rest := []) ⟨hx, hb, hml, hown, hts⟩ (m_refuse l D dA sa lo al σ μ 1) (cwV 1 hts (gdV w_3_126 w_3_128 wp_10 w_1_3 w_3_129) rfl rfl rfl (by decide +kernel) ⟨Nat.le_of_ble_eq_true rfl, Nat.le_of_ble_eq_true rfl⟩) ⟨iv_bl, sx_recv hK (c8_at hI) rfl, fun U hU hW => ⟨rfl, iv_use hI hwd hS hU hW⟩⟩ rfl rfl hl.1 rfl (lv_room (Nat.le_of_ble_eq_true rfl)) dX5_look_20 ⟨Nat.le_of_ble_eq_true rfl, Nat.le_of_ble_eq_true rfl⟩) hS (fun q _ h => h) (fun q h => h) (fun r_20 u9 T9 H1 locs ht9 hvm9 e_20 hB9 hz9 hk9 hS => ?_)
        have hI := iv_takeM ht9 hB9
        clear hB9 hk9
        obtain ⟨rfl, rfl⟩ := e_20
        refine lv_i2l hx hb dX5_look_23 rfl ?_
        exact W.lret (v := (0 : Int32).toInt64) hx hb hr (fun t ht hW => ⟨⟨(0 : Int32).toInt64, uI μ 8 0 0 1, rfl, (by unfold cLookM; rcases hq9 : gIx x n with _ | i9 <;> simp only [if_neg c_9, if_neg c_15] <;> rfl), iv_giveM ht hI⟩, hS.F ht⟩) hS.2.2 dX5_look_24

set_option maxHeartbeats 4000000 in
set_option maxRecDepth 100000 in
theorem m_of (l : Launch) (D : va_G) (dA : Nat → ClassId) (sa : Nat → Nat) (lo : Nat) (al : Nat → Nat → Nat) (σ μ : CS) (x w : Int32) (n r : Nat) (hw : WFm μ n r) : Met l yX5_of wsX5_of ({ frames := 1, cells := 0, slots := 0, locals := 40 }) (va_Pc [.ref (al 8 0), .int x, .int w] (ivP D dA sa lo al σ μ)) (va_Ql (fun z9 u => (z9, u) = cOfM μ r x w) (ivM D dA lo al σ) (fun q => lo ≤ q)) 0 0 (fun q => lo ≤ q) := by
  refine Met.ofW (cc := cX5_of) (maxL := 5) (ret := some .long) (by decide) rfl ?_
  intro p e s m args below meth c s₁ B hml hv
  obtain ⟨rfl, hI, hwd⟩ := hv
  have hx := B.exec
  have hb := B.bytes
  have hr := B.returns
  have hts : ∀ w ∈ WSall, w.before _ s = true := fun w h => atoms_spec (ws := wsX5_of) B.pre w (List.mem_cons_of_mem _ h)
  have hown : s.vm.findClass RX5 = some m.cls := findClass_of_methodNamed B.named
  have hlocks := B.notSynchronized
  have hK := hwd.1
  have hS : va_S (fun q => lo ≤ q) s.heap s.heap [] := va_S.rf
  have hl := lv_entry ([.ref (al 8 0), .int x, .int w]) (n := 5) (Nat.le_of_ble_eq_true rfl)
  rw [lg_entry_eq]
  generalize (lg_sl ([.ref (al 8 0), .int x, .int w]) ++ List.replicate (5 - (lg_sl ([.ref (al 8 0), .int x, .int w])).length) Slot.unset).toArray = ls at hl ⊢
  have hl : lv_has ls 5 [(0, .ref (al 8 0)), (1, .int x), (2, .int w)] := hl
  obtain ⟨hn20, hr60, hgn, hrn, hor, hpt, hpr, hdn⟩ := id hw
  refine lv_aload_n hx hb dX5_of_0 rfl (lv_at hl 0 rfl) ?_
  refine lv_iload_n hx hb dX5_of_1 rfl (lv_at hl 1 rfl) ?_
  refine vp_callSi (W.runV (As := [.int x]) (rest := []) ⟨hx, hb, hml, hown, hts⟩ (m_isReservation l D dA sa lo al σ μ x) (cwV 1 hts (gdV w_3_186 w_3_188 wp_19 w_1_3 w_3_189) rfl rfl rfl (by decide +kernel) ⟨Nat.le_of_ble_eq_true rfl, Nat.le_of_ble_eq_true rfl⟩) ⟨iv_bl, sx_recv hK (c8_at hI) rfl, fun U hU hW => ⟨rfl, iv_use hI hwd hS hU hW⟩⟩ rfl rfl hl.1 rfl (lv_room (Nat.le_of_ble_eq_true rfl)) dX5_of_2 ⟨Nat.le_of_ble_eq_true rfl, Nat.le_of_ble_eq_true rfl⟩) (fun r_2 e_2 => ?_)
  subst e_2
  refine lv_if_eq (tgt := 22) hx hb dX5_of_5 (by decide) (fun c_5 => ?_) (fun c_5 => ?_)
  · have c_5 := bp_0.mp c_5
    refine lv_iconst (v := 0) hx hb dX5_of_22 (by decide) ?_
    refine lv_istore_n (lv' := [(3, .int 0), (0, .ref (al 8 0)), (1, .int x), (2, .int w)]) hx hb dX5_of_23 rfl hl (by decide) rfl (fun ls hl => ?_)
    refine lv_iload_n hx hb dX5_of_24 rfl (lv_at hl 3 rfl) ?_
    refine lv_iconst (v := 5) hx hb dX5_of_25 (by decide) ?_
    refine lv_icmp_ge (tgt := 33) hx hb dX5_of_26 (by decide) (fun c_26 => ?_) (fun c_26 => ?_)
    · refine lv_iload_n hx hb dX5_of_33 rfl (lv_at hl 3 rfl) ?_
      refine lv_bipush (v := 9) hx hb dX5_of_34 (by decide) ?_
      refine lv_icmp_ge (tgt := 45) hx hb dX5_of_36 (by decide) (fun c_36 => ?_) (fun c_36 => ?_)
      · refine lv_iload_n hx hb dX5_of_45 rfl (lv_at hl 3 rfl) ?_
        refine lv_bipush (v := 9) hx hb dX5_of_46 (by decide) ?_
        refine lv_isub hx hb dX5_of_48 ?_
        refine lv_istore (lv' := [(4, .int (w - 9)), (3, .int 0), (0, .ref (al 8 0)), (1, .int x), (2, .int w)]) hx hb dX5_of_49 hl (by decide) rfl (fun ls hl => ?_)
        refine lv_iload_n hx hb dX5_of_51 rfl (lv_at hl 1 rfl) ?_
        refine lv_if_eq (tgt := 79) hx hb dX5_of_52 (by decide) (fun c_52 => ?_) (fun c_52 => ?_)
        · refine lv_aload_n hx hb dX5_of_79 rfl (lv_at hl 2 rfl) ?_
          refine lv_iconst (v := 1) hx hb dX5_of_80 (by decide) ?_
          refine va_calli (va_runV (As := [.int 1]) (rest := []) ⟨hx, hb, hml, hown, hts⟩ (m_refuse l D dA sa lo al σ μ 1) (cwV 1 hts (gdV w_3_126 w_3_128 wp_10 w_1_3 w_3_129) rfl rfl rfl (by decide +kernel) ⟨Nat.le_of_ble_eq_true rfl, Nat.le_of_ble_eq_true rfl⟩) ⟨iv_bl, sx_recv hK (c8_at hI) rfl, fun U hU hW => ⟨rfl, iv_use hI hwd hS hU hW⟩⟩ rfl rfl hl.1 rfl (lv_room (Nat.le_of_ble_eq_true rfl)) dX5_of_81 ⟨Nat.le_of_ble_eq_true rfl, Nat.le_of_ble_eq_true rfl⟩) hS (fun q _ h => h) (fun q h => h) (fun r_81 u9 T9 H1 locs ht9 hvm9 e_81 hB9 hz9 hk9 hS => ?_)
          have hI := iv_takeM ht9 hB9
          clear hB9 hk9
          obtain ⟨rfl, rfl⟩ := e_81
          refine lv_i2l hx hb dX5_of_84 rfl ?_
          exact W.lret (v := (0 : Int32).toInt64) hx hb hr (fun t ht hW => ⟨⟨(0 : Int32).toInt64, uI μ 8 0 0 1, rfl, (by unfold cOfM; rw [pNum_no hrn c_5] <;> rfl), iv_giveM ht hI⟩, hS.F ht⟩) hS.2.2 dX5_of_85
        · exact absurd (by decide) c_52
      · refine lv_iload_n hx hb dX5_of_39 rfl (lv_at hl 3 rfl) ?_
        refine lv_iconst (v := 5) hx hb dX5_of_40 (by decide) ?_
        refine lv_isub hx hb dX5_of_41 ?_
        refine lv_goto (tgt := 49) hx hb dX5_of_42 (by decide) ?_
        refine lv_istore (lv' := [(4, .int (w - 5)), (3, .int 0), (0, .ref (al 8 0)), (1, .int x), (2, .int w)]) hx hb dX5_of_49 hl (by decide) rfl (fun ls hl => ?_)
        refine lv_iload_n hx hb dX5_of_51 rfl (lv_at hl 1 rfl) ?_
        refine lv_if_eq (tgt := 79) hx hb dX5_of_52 (by decide) (fun c_52 => ?_) (fun c_52 => ?_)
        · refine lv_aload_n hx hb dX5_of_79 rfl (lv_at hl 2 rfl) ?_
          refine lv_iconst (v := 1) hx hb dX5_of_80 (by decide) ?_
          refine va_calli (va_runV (As := [.int 1]) (rest := []) ⟨hx, hb, hml, hown, hts⟩ (m_refuse l D dA sa lo al σ μ 1) (cwV 1 hts (gdV w_3_126 w_3_128 wp_10 w_1_3 w_3_129) rfl rfl rfl (by decide +kernel) ⟨Nat.le_of_ble_eq_true rfl, Nat.le_of_ble_eq_true rfl⟩) ⟨iv_bl, sx_recv hK (c8_at hI) rfl, fun U hU hW => ⟨rfl, iv_use hI hwd hS hU hW⟩⟩ rfl rfl hl.1 rfl (lv_room (Nat.le_of_ble_eq_true rfl)) dX5_of_81 ⟨Nat.le_of_ble_eq_true rfl, Nat.le_of_ble_eq_true rfl⟩) hS (fun q _ h => h) (fun q h => h) (fun r_81 u9 T9 H1 locs ht9 hvm9 e_81 hB9 hz9 hk9 hS => ?_)
          have hI := iv_takeM ht9 hB9
          clear hB9 hk9
          obtain ⟨rfl, rfl⟩ := e_81
          refine lv_i2l hx hb dX5_of_84 rfl ?_
          exact W.lret (v := (0 : Int32).toInt64) hx hb hr (fun t ht hW => ⟨⟨(0 : Int32).toInt64, uI μ 8 0 0 1, rfl, (by unfold cOfM; rw [pNum_no hrn c_5] <;> rfl), iv_giveM ht hI⟩, hS.F ht⟩) hS.2.2 dX5_of_85
        · exact absurd (by decide) c_52
    · refine lv_iconst (v := 0) hx hb dX5_of_29 (by decide) ?_
      refine lv_goto (tgt := 49) hx hb dX5_of_30 (by decide) ?_
      refine lv_istore (lv' := [(4, .int 0), (3, .int 0), (0, .ref (al 8 0)), (1, .int x), (2, .int w)]) hx hb dX5_of_49 hl (by decide) rfl (fun ls hl => ?_)
      refine lv_iload_n hx hb dX5_of_51 rfl (lv_at hl 1 rfl) ?_
      refine lv_if_eq (tgt := 79) hx hb dX5_of_52 (by decide) (fun c_52 => ?_) (fun c_52 => ?_)
      · refine lv_aload_n hx hb dX5_of_79 rfl (lv_at hl 2 rfl) ?_
        refine lv_iconst (v := 1) hx hb dX5_of_80 (by decide) ?_
        refine va_calli (va_runV (As := [.int 1]) (rest := []) ⟨hx, hb, hml, hown, hts⟩ (m_refuse l D dA sa lo al σ μ 1) (cwV 1 hts (gdV w_3_126 w_3_128 wp_10 w_1_3 w_3_129) rfl rfl rfl (by decide +kernel) ⟨Nat.le_of_ble_eq_true rfl, Nat.le_of_ble_eq_true rfl⟩) ⟨iv_bl, sx_recv hK (c8_at hI) rfl, fun U hU hW => ⟨rfl, iv_use hI hwd hS hU hW⟩⟩ rfl rfl hl.1 rfl (lv_room (Nat.le_of_ble_eq_true rfl)) dX5_of_81 ⟨Nat.le_of_ble_eq_true rfl, Nat.le_of_ble_eq_true rfl⟩) hS (fun q _ h => h) (fun q h => h) (fun r_81 u9 T9 H1 locs ht9 hvm9 e_81 hB9 hz9 hk9 hS => ?_)
        have hI := iv_takeM ht9 hB9
        clear hB9 hk9
        obtain ⟨rfl, rfl⟩ := e_81
        refine lv_i2l hx hb dX5_of_84 rfl ?_
        exact W.lret (v := (0 : Int32).toInt64) hx hb hr (fun t ht hW => ⟨⟨(0 : Int32).toInt64, uI μ 8 0 0 1, rfl, (by unfold cOfM; rw [pNum_no hrn c_5] <;> rfl), iv_giveM ht hI⟩, hS.F ht⟩) hS.2.2 dX5_of_85
      · exact absurd (by decide) c_52
  · have c_5 := bp_n0.mp c_5
    refine lv_iload_n hx hb dX5_of_8 rfl (lv_at hl 2 rfl) ?_
    refine lv_if_lt (tgt := 22) hx hb dX5_of_9 (by decide) (fun c_9 => ?_) (fun c_9 => ?_)
    · refine lv_iconst (v := 0) hx hb dX5_of_22 (by decide) ?_
      refine lv_istore_n (lv' := [(3, .int 0), (0, .ref (al 8 0)), (1, .int x), (2, .int w)]) hx hb dX5_of_23 rfl hl (by decide) rfl (fun ls hl => ?_)
      refine lv_iload_n hx hb dX5_of_24 rfl (lv_at hl 3 rfl) ?_
      refine lv_iconst (v := 5) hx hb dX5_of_25 (by decide) ?_
      refine lv_icmp_ge (tgt := 33) hx hb dX5_of_26 (by decide) (fun c_26 => ?_) (fun c_26 => ?_)
      · refine lv_iload_n hx hb dX5_of_33 rfl (lv_at hl 3 rfl) ?_
        refine lv_bipush (v := 9) hx hb dX5_of_34 (by decide) ?_
        refine lv_icmp_ge (tgt := 45) hx hb dX5_of_36 (by decide) (fun c_36 => ?_) (fun c_36 => ?_)
        · refine lv_iload_n hx hb dX5_of_45 rfl (lv_at hl 3 rfl) ?_
          refine lv_bipush (v := 9) hx hb dX5_of_46 (by decide) ?_
          refine lv_isub hx hb dX5_of_48 ?_
          refine lv_istore (lv' := [(4, .int (w - 9)), (3, .int 0), (0, .ref (al 8 0)), (1, .int x), (2, .int w)]) hx hb dX5_of_49 hl (by decide) rfl (fun ls hl => ?_)
          refine lv_iload_n hx hb dX5_of_51 rfl (lv_at hl 1 rfl) ?_
          refine lv_if_eq (tgt := 79) hx hb dX5_of_52 (by decide) (fun c_52 => ?_) (fun c_52 => ?_)
          · refine lv_aload_n hx hb dX5_of_79 rfl (lv_at hl 2 rfl) ?_
            refine lv_iconst (v := 1) hx hb dX5_of_80 (by decide) ?_
            refine va_calli (va_runV (As := [.int 1]) (rest := []) ⟨hx, hb, hml, hown, hts⟩ (m_refuse l D dA sa lo al σ μ 1) (cwV 1 hts (gdV w_3_126 w_3_128 wp_10 w_1_3 w_3_129) rfl rfl rfl (by decide +kernel) ⟨Nat.le_of_ble_eq_true rfl, Nat.le_of_ble_eq_true rfl⟩) ⟨iv_bl, sx_recv hK (c8_at hI) rfl, fun U hU hW => ⟨rfl, iv_use hI hwd hS hU hW⟩⟩ rfl rfl hl.1 rfl (lv_room (Nat.le_of_ble_eq_true rfl)) dX5_of_81 ⟨Nat.le_of_ble_eq_true rfl, Nat.le_of_ble_eq_true rfl⟩) hS (fun q _ h => h) (fun q h => h) (fun r_81 u9 T9 H1 locs ht9 hvm9 e_81 hB9 hz9 hk9 hS => ?_)
            have hI := iv_takeM ht9 hB9
            clear hB9 hk9
            obtain ⟨rfl, rfl⟩ := e_81
            refine lv_i2l hx hb dX5_of_84 rfl ?_
            exact W.lret (v := (0 : Int32).toInt64) hx hb hr (fun t ht hW => ⟨⟨(0 : Int32).toInt64, uI μ 8 0 0 1, rfl, (by unfold cOfM; rcases hq9 : gIx x r with _ | i9 <;> simp only [if_pos c_9] <;> rfl), iv_giveM ht hI⟩, hS.F ht⟩) hS.2.2 dX5_of_85
          · exact absurd (by decide) c_52
        · refine lv_iload_n hx hb dX5_of_39 rfl (lv_at hl 3 rfl) ?_
          refine lv_iconst (v := 5) hx hb dX5_of_40 (by decide) ?_
          refine lv_isub hx hb dX5_of_41 ?_
          refine lv_goto (tgt := 49) hx hb dX5_of_42 (by decide) ?_
          refine lv_istore (lv' := [(4, .int (w - 5)), (3, .int 0), (0, .ref (al 8 0)), (1, .int x), (2, .int w)]) hx hb dX5_of_49 hl (by decide) rfl (fun ls hl => ?_)
          refine lv_iload_n hx hb dX5_of_51 rfl (lv_at hl 1 rfl) ?_
          refine lv_if_eq (tgt := 79) hx hb dX5_of_52 (by decide) (fun c_52 => ?_) (fun c_52 => ?_)
          · refine lv_aload_n hx hb dX5_of_79 rfl (lv_at hl 2 rfl) ?_
            refine lv_iconst (v := 1) hx hb dX5_of_80 (by decide) ?_
            refine va_calli (va_runV (As := [.int 1]) (rest := []) ⟨hx, hb, hml, hown, hts⟩ (m_refuse l D dA sa lo al σ μ 1) (cwV 1 hts (gdV w_3_126 w_3_128 wp_10 w_1_3 w_3_129) rfl rfl rfl (by decide +kernel) ⟨Nat.le_of_ble_eq_true rfl, Nat.le_of_ble_eq_true rfl⟩) ⟨iv_bl, sx_recv hK (c8_at hI) rfl, fun U hU hW => ⟨rfl, iv_use hI hwd hS hU hW⟩⟩ rfl rfl hl.1 rfl (lv_room (Nat.le_of_ble_eq_true rfl)) dX5_of_81 ⟨Nat.le_of_ble_eq_true rfl, Nat.le_of_ble_eq_true rfl⟩) hS (fun q _ h => h) (fun q h => h) (fun r_81 u9 T9 H1 locs ht9 hvm9 e_81 hB9 hz9 hk9 hS => ?_)
            have hI := iv_takeM ht9 hB9
            clear hB9 hk9
            obtain ⟨rfl, rfl⟩ := e_81
            refine lv_i2l hx hb dX5_of_84 rfl ?_
            exact W.lret (v := (0 : Int32).toInt64) hx hb hr (fun t ht hW => ⟨⟨(0 : Int32).toInt64, uI μ 8 0 0 1, rfl, (by unfold cOfM; rcases hq9 : gIx x r with _ | i9 <;> simp only [if_pos c_9] <;> rfl), iv_giveM ht hI⟩, hS.F ht⟩) hS.2.2 dX5_of_85
          · exact absurd (by decide) c_52
      · refine lv_iconst (v := 0) hx hb dX5_of_29 (by decide) ?_
        refine lv_goto (tgt := 49) hx hb dX5_of_30 (by decide) ?_
        refine lv_istore (lv' := [(4, .int 0), (3, .int 0), (0, .ref (al 8 0)), (1, .int x), (2, .int w)]) hx hb dX5_of_49 hl (by decide) rfl (fun ls hl => ?_)
        refine lv_iload_n hx hb dX5_of_51 rfl (lv_at hl 1 rfl) ?_
        refine lv_if_eq (tgt := 79) hx hb dX5_of_52 (by decide) (fun c_52 => ?_) (fun c_52 => ?_)
        · refine lv_aload_n hx hb dX5_of_79 rfl (lv_at hl 2 rfl) ?_
          refine lv_iconst (v := 1) hx hb dX5_of_80 (by decide) ?_
          refine va_calli (va_runV (As := [.int 1]) (rest := []) ⟨hx, hb, hml, hown, hts⟩ (m_refuse l D dA sa lo al σ μ 1) (cwV 1 hts (gdV w_3_126 w_3_128 wp_10 w_1_3 w_3_129) rfl rfl rfl (by decide +kernel) ⟨Nat.le_of_ble_eq_true rfl, Nat.le_of_ble_eq_true rfl⟩) ⟨iv_bl, sx_recv hK (c8_at hI) rfl, fun U hU hW => ⟨rfl, iv_use hI hwd hS hU hW⟩⟩ rfl rfl hl.1 rfl (lv_room (Nat.le_of_ble_eq_true rfl)) dX5_of_81 ⟨Nat.le_of_ble_eq_true rfl, Nat.le_of_ble_eq_true rfl⟩) hS (fun q _ h => h) (fun q h => h) (fun r_81 u9 T9 H1 locs ht9 hvm9 e_81 hB9 hz9 hk9 hS => ?_)
          have hI := iv_takeM ht9 hB9
          clear hB9 hk9
          obtain ⟨rfl, rfl⟩ := e_81
          refine lv_i2l hx hb dX5_of_84 rfl ?_
          exact W.lret (v := (0 : Int32).toInt64) hx hb hr (fun t ht hW => ⟨⟨(0 : Int32).toInt64, uI μ 8 0 0 1, rfl, (by unfold cOfM; rcases hq9 : gIx x r with _ | i9 <;> simp only [if_pos c_9] <;> rfl), iv_giveM ht hI⟩, hS.F ht⟩) hS.2.2 dX5_of_85
        · exact absurd (by decide) c_52
    · refine lv_iload_n hx hb dX5_of_12 rfl (lv_at hl 2 rfl) ?_
      refine lv_bipush (v := 13) hx hb dX5_of_13 (by decide) ?_
      refine lv_icmp_ge (tgt := 22) hx hb dX5_of_15 (by decide) (fun c_15 => ?_) (fun c_15 => ?_)
      · refine lv_iconst (v := 0) hx hb dX5_of_22 (by decide) ?_
        refine lv_istore_n (lv' := [(3, .int 0), (0, .ref (al 8 0)), (1, .int x), (2, .int w)]) hx hb dX5_of_23 rfl hl (by decide) rfl (fun ls hl => ?_)
        refine lv_iload_n hx hb dX5_of_24 rfl (lv_at hl 3 rfl) ?_
        refine lv_iconst (v := 5) hx hb dX5_of_25 (by decide) ?_
        refine lv_icmp_ge (tgt := 33) hx hb dX5_of_26 (by decide) (fun c_26 => ?_) (fun c_26 => ?_)
        · refine lv_iload_n hx hb dX5_of_33 rfl (lv_at hl 3 rfl) ?_
          refine lv_bipush (v := 9) hx hb dX5_of_34 (by decide) ?_
          refine lv_icmp_ge (tgt := 45) hx hb dX5_of_36 (by decide) (fun c_36 => ?_) (fun c_36 => ?_)
          · refine lv_iload_n hx hb dX5_of_45 rfl (lv_at hl 3 rfl) ?_
            refine lv_bipush (v := 9) hx hb dX5_of_46 (by decide) ?_
            refine lv_isub hx hb dX5_of_48 ?_
            refine lv_istore (lv' := [(4, .int (w - 9)), (3, .int 0), (0, .ref (al 8 0)), (1, .int x), (2, .int w)]) hx hb dX5_of_49 hl (by decide) rfl (fun ls hl => ?_)
            refine lv_iload_n hx hb dX5_of_51 rfl (lv_at hl 1 rfl) ?_
            refine lv_if_eq (tgt := 79) hx hb dX5_of_52 (by decide) (fun c_52 => ?_) (fun c_52 => ?_)
            · refine lv_aload_n hx hb dX5_of_79 rfl (lv_at hl 2 rfl) ?_
              refine lv_iconst (v := 1) hx hb dX5_of_80 (by decide) ?_
              refine va_calli (va_runV (As := [.int 1]) (rest := []) ⟨hx, hb, hml, hown, hts⟩ (m_refuse l D dA sa lo al σ μ 1) (cwV 1 hts (gdV w_3_126 w_3_128 wp_10 w_1_3 w_3_129) rfl rfl rfl (by decide +kernel) ⟨Nat.le_of_ble_eq_true rfl, Nat.le_of_ble_eq_true rfl⟩) ⟨iv_bl, sx_recv hK (c8_at hI) rfl, fun U hU hW => ⟨rfl, iv_use hI hwd hS hU hW⟩⟩ rfl rfl hl.1 rfl (lv_room (Nat.le_of_ble_eq_true rfl)) dX5_of_81 ⟨Nat.le_of_ble_eq_true rfl, Nat.le_of_ble_eq_true rfl⟩) hS (fun q _ h => h) (fun q h => h) (fun r_81 u9 T9 H1 locs ht9 hvm9 e_81 hB9 hz9 hk9 hS => ?_)
              have hI := iv_takeM ht9 hB9
              clear hB9 hk9
              obtain ⟨rfl, rfl⟩ := e_81
              refine lv_i2l hx hb dX5_of_84 rfl ?_
              exact W.lret (v := (0 : Int32).toInt64) hx hb hr (fun t ht hW => ⟨⟨(0 : Int32).toInt64, uI μ 8 0 0 1, rfl, (by unfold cOfM; rcases hq9 : gIx x r with _ | i9 <;> simp only [if_neg c_9, if_pos c_15] <;> rfl), iv_giveM ht hI⟩, hS.F ht⟩) hS.2.2 dX5_of_85
            · exact absurd (by decide) c_52
          · refine lv_iload_n hx hb dX5_of_39 rfl (lv_at hl 3 rfl) ?_
            refine lv_iconst (v := 5) hx hb dX5_of_40 (by decide) ?_
            refine lv_isub hx hb dX5_of_41 ?_
            refine lv_goto (tgt := 49) hx hb dX5_of_42 (by decide) ?_
            refine lv_istore (lv' := [(4, .int (w - 5)), (3, .int 0), (0, .ref (al 8 0)), (1, .int x), (2, .int w)]) hx hb dX5_of_49 hl (by decide) rfl (fun ls hl => ?_)
            refine lv_iload_n hx hb dX5_of_51 rfl (lv_at hl 1 rfl) ?_
            refine lv_if_eq (tgt := 79) hx hb dX5_of_52 (by decide) (fun c_52 => ?_) (fun c_52 => ?_)
            · refine lv_aload_n hx hb dX5_of_79 rfl (lv_at hl 2 rfl) ?_
              refine lv_iconst (v := 1) hx hb dX5_of_80 (by decide) ?_
              refine va_calli (va_runV (As := [.int 1]) (rest := []) ⟨hx, hb, hml, hown, hts⟩ (m_refuse l D dA sa lo al σ μ 1) (cwV 1 hts (gdV w_3_126 w_3_128 wp_10 w_1_3 w_3_129) rfl rfl rfl (by decide +kernel) ⟨Nat.le_of_ble_eq_true rfl, Nat.le_of_ble_eq_true rfl⟩) ⟨iv_bl, sx_recv hK (c8_at hI) rfl, fun U hU hW => ⟨rfl, iv_use hI hwd hS hU hW⟩⟩ rfl rfl hl.1 rfl (lv_room (Nat.le_of_ble_eq_true rfl)) dX5_of_81 ⟨Nat.le_of_ble_eq_true rfl, Nat.le_of_ble_eq_true rfl⟩) hS (fun q _ h => h) (fun q h => h) (fun r_81 u9 T9 H1 locs ht9 hvm9 e_81 hB9 hz9 hk9 hS => ?_)
              have hI := iv_takeM ht9 hB9
              clear hB9 hk9
              obtain ⟨rfl, rfl⟩ := e_81
              refine lv_i2l hx hb dX5_of_84 rfl ?_
              exact W.lret (v := (0 : Int32).toInt64) hx hb hr (fun t ht hW => ⟨⟨(0 : Int32).toInt64, uI μ 8 0 0 1, rfl, (by unfold cOfM; rcases hq9 : gIx x r with _ | i9 <;> simp only [if_neg c_9, if_pos c_15] <;> rfl), iv_giveM ht hI⟩, hS.F ht⟩) hS.2.2 dX5_of_85
            · exact absurd (by decide) c_52
        · refine lv_iconst (v := 0) hx hb dX5_of_29 (by decide) ?_
          refine lv_goto (tgt := 49) hx hb dX5_of_30 (by decide) ?_
          refine lv_istore (lv' := [(4, .int 0), (3, .int 0), (0, .ref (al 8 0)), (1, .int x), (2, .int w)]) hx hb dX5_of_49 hl (by decide) rfl (fun ls hl => ?_)
          refine lv_iload_n hx hb dX5_of_51 rfl (lv_at hl 1 rfl) ?_
          refine lv_if_eq (tgt := 79) hx hb dX5_of_52 (by decide) (fun c_52 => ?_) (fun c_52 => ?_)
          · refine lv_aload_n hx hb dX5_of_79 rfl (lv_at hl 2 rfl) ?_
            refine lv_iconst (v := 1) hx hb dX5_of_80 (by decide) ?_
            refine va_calli (va_runV (As := [.int 1]) (rest := []) ⟨hx, hb, hml, hown, hts⟩ (m_refuse l D dA sa lo al σ μ 1) (cwV 1 hts (gdV w_3_126 w_3_128 wp_10 w_1_3 w_3_129) rfl rfl rfl (by decide +kernel) ⟨Nat.le_of_ble_eq_true rfl, Nat.le_of_ble_eq_true rfl⟩) ⟨iv_bl, sx_recv hK (c8_at hI) rfl, fun U hU hW => ⟨rfl, iv_use hI hwd hS hU hW⟩⟩ rfl rfl hl.1 rfl (lv_room (Nat.le_of_ble_eq_true rfl)) dX5_of_81 ⟨Nat.le_of_ble_eq_true rfl, Nat.le_of_ble_eq_true rfl⟩) hS (fun q _ h => h) (fun q h => h) (fun r_81 u9 T9 H1 locs ht9 hvm9 e_81 hB9 hz9 hk9 hS => ?_)
            have hI := iv_takeM ht9 hB9
            clear hB9 hk9
            obtain ⟨rfl, rfl⟩ := e_81
            refine lv_i2l hx hb dX5_of_84 rfl ?_
            exact W.lret (v := (0 : Int32).toInt64) hx hb hr (fun t ht hW => ⟨⟨(0 : Int32).toInt64, uI μ 8 0 0 1, rfl, (by unfold cOfM; rcases hq9 : gIx x r with _ | i9 <;> simp only [if_neg c_9, if_pos c_15] <;> rfl), iv_giveM ht hI⟩, hS.F ht⟩) hS.2.2 dX5_of_85
          · exact absurd (by decide) c_52
      · obtain ⟨i, hi, ex, hix⟩ := pNum_ix hrn (by omega) c_5
        subst ex
        have hcx : (nI (i + 1)).toNatClampNeg = i + 1 := nI_clamp (by omega)
        have hvx : vp_in (nI (i + 1)) 61 := vp_in_nI (by omega) (by decide)
        have hl : lv_has ls 5 [(0, .ref (al 8 0)), (1, .int (nI (i + 1))), (2, .int w)] := hl
        obtain ⟨p, hp4, hpp⟩ := hpt (i + 1) (by omega)
        have hmp : mP μ (i + 1) = p := mP_of hpp hp4
        obtain ⟨v, hv9, rfl⟩ := nI_of c_9
        have hv13 : v < 13 := by
          have : ¬ 13 ≤ v := fun h => c_15 ((nI_leI (a := 13) (b := v) (by decide) hv9).mpr h)
          omega
        have hl : lv_has ls 5 [(0, .ref (al 8 0)), (1, .int (nI (i + 1))), (2, .int (nI v))] := hl
        refine lv_iconst (v := 1) hx hb dX5_of_18 (by decide) ?_
        refine lv_goto (tgt := 23) hx hb dX5_of_19 (by decide) ?_
        refine lv_istore_n (lv' := [(3, .int 1), (0, .ref (al 8 0)), (1, .int (nI (i + 1))), (2, .int (nI v))]) hx hb dX5_of_23 rfl hl (by decide) rfl (fun ls hl => ?_)
        refine lv_iload_n hx hb dX5_of_24 rfl (lv_at hl 3 rfl) ?_
        refine lv_iconst (v := 5) hx hb dX5_of_25 (by decide) ?_
        refine lv_icmp_ge (tgt := 33) hx hb dX5_of_26 (by decide) (fun c_26 => ?_) (fun c_26 => ?_)
        · refine lv_iload_n hx hb dX5_of_33 rfl (lv_at hl 3 rfl) ?_
          refine lv_bipush (v := 9) hx hb dX5_of_34 (by decide) ?_
          refine lv_icmp_ge (tgt := 45) hx hb dX5_of_36 (by decide) (fun c_36 => ?_) (fun c_36 => ?_)
          · refine lv_iload_n hx hb dX5_of_45 rfl (lv_at hl 3 rfl) ?_
            refine lv_bipush (v := 9) hx hb dX5_of_46 (by decide) ?_
            refine lv_isub hx hb dX5_of_48 ?_
            have vc_26 : 5 ≤ v := (nI_leI (a := 5) (b := v) (by decide) (by omega)).mp c_26
            have vc_36 : 9 ≤ v := (nI_leI (a := 9) (b := v) (by decide) (by omega)).mp c_36
            refine W.eq (g2 := F0 m 49 ls (.int (nI (v - 9)) :: [])) (by exact congrArg (fun z => F0 m 49 ls (.int z :: [])) (pk_sub (a := v) (b := 9) (by omega))) ?_
            refine lv_istore (lv' := [(4, .int (nI (v - 9))), (3, .int 1), (0, .ref (al 8 0)), (1, .int (nI (i + 1))), (2, .int (nI v))]) hx hb dX5_of_49 hl (by decide) rfl (fun ls hl => ?_)
            refine lv_iload_n hx hb dX5_of_51 rfl (lv_at hl 1 rfl) ?_
            refine lv_if_eq (tgt := 79) hx hb dX5_of_52 (by decide) (fun c_52 => ?_) (fun c_52 => ?_)
            · exact absurd c_52 (by decide)
            · refine lv_iload_n hx hb dX5_of_55 rfl (lv_at hl 4 rfl) ?_
              refine lv_iconst (v := 4) hx hb dX5_of_56 (by decide) ?_
              refine lv_icmp_le (tgt := 86) hx hb dX5_of_57 (by decide) (fun c_57 => ?_) (fun c_57 => ?_)
              · exact absurd ((nI_leI (a := v) (b := 4) (by omega) (by decide)).mp c_57) (by have := (nI_leI (a := 5) (b := v) (by decide) (by omega)).mp c_26; omega)
              · refine lv_iload hx hb dX5_of_60 (lv_at hl 0 rfl) ?_
                refine lv_aload_n hx hb dX5_of_62 rfl (lv_at hl 2 rfl) ?_
                refine sx_get (ci := 5) (C := RX5) (T := TX5) (N := 24) (v := .ref (al 9 15)) hx hb hts inX5 hown hK (c8_at hI) rfl 19 (by decide) (hts _ w_3_55) rfl rfl dX5_of_63 ?_
                refine lv_iload_n hx hb dX5_of_66 rfl (lv_at hl 1 rfl) ?_
                refine lv_if_eq (tgt := 74) hx hb dX5_of_67 (by decide) (fun c_67 => ?_) (fun c_67 => ?_)
                · exact absurd c_67 (by decide)
                · refine lv_iload_n hx hb dX5_of_70 rfl (lv_at hl 3 rfl) ?_
                  refine lv_goto (tgt := 75) hx hb dX5_of_71 (by decide) ?_
                  refine sx_iald hx hb hK (c9_15_at hI) 0 rfl hvx dX5_of_75 ?_
                  rw [hcx]
                  refine lv_icmp_lt (tgt := 86) hx hb dX5_of_76 (by decide) (fun c_76 => ?_) (fun c_76 => ?_)
                  · refine lv_aload_n hx hb dX5_of_86 rfl (lv_at hl 2 rfl) ?_
                    refine lv_iconst (v := 0) hx hb dX5_of_87 (by decide) ?_
                    refine sx_put (ci := 5) (v := .int 0) (ty := .int) (C := RX5) (T := TX5) (N := 24) hx hb hts inX5 tyX5 okX5 nmX5 hown hK hS (c8_at hI) (c8_lo hI) rfl 0 (by decide) (hts _ w_3_36) rfl rfl (by decide +kernel) rfl rfl (Nat.le_of_ble_eq_true rfl) dX5_of_88 (fun H locs hq => ?_)
                    have hI := c8_uI (f := 0) (v := 0) hI rfl hq
                    have hS := hq.2.2.2
                    refine lv_iload_n hx hb dX5_of_91 rfl (lv_at hl 4 rfl) ?_
                    have vc_57 : ¬ v ≤ 4 := fun h => c_57 ((nI_leI (a := v) (b := 4) (by omega) (by decide)).mpr h)
                    have c_92_0 : ¬ nI v = 0 := fun e => absurd ((nI_eq (a := v) (b := 0) (by omega) (by decide)).mp e) (by omega)
                    have c_92_1 : ¬ nI v = 1 := fun e => absurd ((nI_eq (a := v) (b := 1) (by omega) (by decide)).mp e) (by omega)
                    have c_92_2 : ¬ nI v = 2 := fun e => absurd ((nI_eq (a := v) (b := 2) (by omega) (by decide)).mp e) (by omega)
                    have c_92_3 : ¬ nI v = 3 := fun e => absurd ((nI_eq (a := v) (b := 3) (by omega) (by decide)).mp e) (by omega)
                    have c_92_4 : ¬ nI v = 4 := fun e => absurd ((nI_eq (a := v) (b := 4) (by omega) (by decide)).mp e) (by omega)
                    refine lv_tableOut (tgt := 165) hx hb dX5_of_92 (sw_out4 c_92_0 c_92_1 c_92_2 c_92_3 c_92_4) (by decide) ?_
                    refine lv_iload_n hx hb dX5_of_165 rfl (lv_at hl 4 rfl) ?_
                    refine lv_bipush (v := 9) hx hb dX5_of_166 (by decide) ?_
                    refine lv_icmp_ge (tgt := 186) hx hb dX5_of_168 (by decide) (fun c_168 => ?_) (fun c_168 => ?_)
                    · have hkp : v - 9 < p := by
                        rw [hpp] at c_76
                        exact (nI_ltI (by omega) (by omega)).mp c_76
                      have hck : (nI (4 * (i + 1) + (v - 9))).toNatClampNeg = 4 * (i + 1) + (v - 9) := nI_clamp (by omega)
                      refine lv_aload_n hx hb dX5_of_186 rfl (lv_at hl 2 rfl) ?_
                      refine sx_get (ci := 5) (C := RX5) (T := TX5) (N := 24) (v := .ref (al 9 17)) hx hb hts inX5 hown hK (c8_at hI) rfl 21 (by decide) (hts _ w_3_57) rfl rfl dX5_of_187 ?_
                      refine lv_iconst (v := 4) hx hb dX5_of_190 (by decide) ?_
                      refine lv_iload_n hx hb dX5_of_191 rfl (lv_at hl 3 rfl) ?_
                      refine lv_imul hx hb dX5_of_192 ?_
                      refine W.eq (g2 := F0 m 193 ls (.int (nI (4 * (i + 1))) :: [.ref (al 9 17)])) (by rw [i4mul]) ?_
                      refine lv_iload hx hb dX5_of_193 (lv_at hl 0 rfl) ?_
                      refine lv_iadd hx hb dX5_of_195 ?_
                      refine W.eq (g2 := F0 m 196 ls (.int (nI (4 * (i + 1) + (v - 9))) :: [.ref (al 9 17)])) (by rw [nI_add]) ?_
                      refine sx_lald hx hb hK (c9_17_at hI) 1 rfl (vp_in_nI (show 4 * (i + 1) + (v - 9) < 244 by omega) (by decide)) dX5_of_196 ?_
                      rw [hck]
                      refine W.eq (g2 := F0 m 197 ls (.long (fL μ 9 17 (4 * (i + 1) + (v - 9))) :: [])) rfl ?_
                      exact W.lret (v := fL μ 9 17 (4 * (i + 1) + (v - 9))) hx hb hr (fun t ht hW => ⟨⟨fL μ 9 17 (4 * (i + 1) + (v - 9)), uI μ 8 0 0 0, rfl, (by have e9 : nI v - 9 = nI (v - 9) := pk_sub (a := v) (b := 9) (by omega); unfold cOfM; rw [hix]; simp only [if_neg c_9, if_neg c_15, if_neg c_57, if_pos c_36]; rw [e9, if_pos c_76, nI_clamp (n := v - 9) (by omega)] <;> rfl), iv_giveM ht hI⟩, hS.F ht⟩) hS.2.2 dX5_of_197
                    · exact absurd c_36 c_168
                  · refine lv_aload_n hx hb dX5_of_79 rfl (lv_at hl 2 rfl) ?_
                    refine lv_iconst (v := 1) hx hb dX5_of_80 (by decide) ?_
                    refine va_calli (va_runV (As := [.int 1]) (rest := []) ⟨hx, hb, hml, hown, hts⟩ (m_refuse l D dA sa lo al σ μ 1) (cwV 1 hts (gdV w_3_126 w_3_128 wp_10 w_1_3 w_3_129) rfl rfl rfl (by decide +kernel) ⟨Nat.le_of_ble_eq_true rfl, Nat.le_of_ble_eq_true rfl⟩) ⟨iv_bl, sx_recv hK (c8_at hI) rfl, fun U hU hW => ⟨rfl, iv_use hI hwd hS hU hW⟩⟩ rfl rfl hl.1 rfl (lv_room (Nat.le_of_ble_eq_true rfl)) dX5_of_81 ⟨Nat.le_of_ble_eq_true rfl, Nat.le_of_ble_eq_true rfl⟩) hS (fun q _ h => h) (fun q h => h) (fun r_81 u9 T9 H1 locs ht9 hvm9 e_81 hB9 hz9 hk9 hS => ?_)
                    have hI := iv_takeM ht9 hB9
                    clear hB9 hk9
                    obtain ⟨rfl, rfl⟩ := e_81
                    refine lv_i2l hx hb dX5_of_84 rfl ?_
                    exact W.lret (v := (0 : Int32).toInt64) hx hb hr (fun t ht hW => ⟨⟨(0 : Int32).toInt64, uI μ 8 0 0 1, rfl, (by have e9 : nI v - 9 = nI (v - 9) := pk_sub (a := v) (b := 9) (by omega); unfold cOfM; rw [hix]; simp only [if_neg c_9, if_neg c_15, if_neg c_57, if_pos c_36]; rw [e9, if_neg c_76] <;> rfl), iv_giveM ht hI⟩, hS.F ht⟩) hS.2.2 dX5_of_85
          · refine lv_iload_n hx hb dX5_of_39 rfl (lv_at hl 3 rfl) ?_
            refine lv_iconst (v := 5) hx hb dX5_of_40 (by decide) ?_
            refine lv_isub hx hb dX5_of_41 ?_
            refine lv_goto (tgt := 49) hx hb dX5_of_42 (by decide) ?_
            have vc_26 : 5 ≤ v := (nI_leI (a := 5) (b := v) (by decide) (by omega)).mp c_26
            have vc_36 : ¬ 9 ≤ v := fun h => c_36 ((nI_leI (a := 9) (b := v) (by decide) (by omega)).mpr h)
            refine W.eq (g2 := F0 m 49 ls (.int (nI (v - 5)) :: [])) (by exact congrArg (fun z => F0 m 49 ls (.int z :: [])) (pk_sub (a := v) (b := 5) (by omega))) ?_
            refine lv_istore (lv' := [(4, .int (nI (v - 5))), (3, .int 1), (0, .ref (al 8 0)), (1, .int (nI (i + 1))), (2, .int (nI v))]) hx hb dX5_of_49 hl (by decide) rfl (fun ls hl => ?_)
            refine lv_iload_n hx hb dX5_of_51 rfl (lv_at hl 1 rfl) ?_
            refine lv_if_eq (tgt := 79) hx hb dX5_of_52 (by decide) (fun c_52 => ?_) (fun c_52 => ?_)
            · exact absurd c_52 (by decide)
            · refine lv_iload_n hx hb dX5_of_55 rfl (lv_at hl 4 rfl) ?_
              refine lv_iconst (v := 4) hx hb dX5_of_56 (by decide) ?_
              refine lv_icmp_le (tgt := 86) hx hb dX5_of_57 (by decide) (fun c_57 => ?_) (fun c_57 => ?_)
              · exact absurd ((nI_leI (a := v) (b := 4) (by omega) (by decide)).mp c_57) (by have := (nI_leI (a := 5) (b := v) (by decide) (by omega)).mp c_26; omega)
              · refine lv_iload hx hb dX5_of_60 (lv_at hl 0 rfl) ?_
                refine lv_aload_n hx hb dX5_of_62 rfl (lv_at hl 2 rfl) ?_
                refine sx_get (ci := 5) (C := RX5) (T := TX5) (N := 24) (v := .ref (al 9 15)) hx hb hts inX5 hown hK (c8_at hI) rfl 19 (by decide) (hts _ w_3_55) rfl rfl dX5_of_63 ?_
                refine lv_iload_n hx hb dX5_of_66 rfl (lv_at hl 1 rfl) ?_
                refine lv_if_eq (tgt := 74) hx hb dX5_of_67 (by decide) (fun c_67 => ?_) (fun c_67 => ?_)
                · exact absurd c_67 (by decide)
                · refine lv_iload_n hx hb dX5_of_70 rfl (lv_at hl 3 rfl) ?_
                  refine lv_goto (tgt := 75) hx hb dX5_of_71 (by decide) ?_
                  refine sx_iald hx hb hK (c9_15_at hI) 0 rfl hvx dX5_of_75 ?_
                  rw [hcx]
                  refine lv_icmp_lt (tgt := 86) hx hb dX5_of_76 (by decide) (fun c_76 => ?_) (fun c_76 => ?_)
                  · refine lv_aload_n hx hb dX5_of_86 rfl (lv_at hl 2 rfl) ?_
                    refine lv_iconst (v := 0) hx hb dX5_of_87 (by decide) ?_
                    refine sx_put (ci := 5) (v := .int 0) (ty := .int) (C := RX5) (T := TX5) (N := 24) hx hb hts inX5 tyX5 okX5 nmX5 hown hK hS (c8_at hI) (c8_lo hI) rfl 0 (by decide) (hts _ w_3_36) rfl rfl (by decide +kernel) rfl rfl (Nat.le_of_ble_eq_true rfl) dX5_of_88 (fun H locs hq => ?_)
                    have hI := c8_uI (f := 0) (v := 0) hI rfl hq
                    have hS := hq.2.2.2
                    refine lv_iload_n hx hb dX5_of_91 rfl (lv_at hl 4 rfl) ?_
                    have vc_57 : ¬ v ≤ 4 := fun h => c_57 ((nI_leI (a := v) (b := 4) (by omega) (by decide)).mpr h)
                    have c_92_0 : ¬ nI v = 0 := fun e => absurd ((nI_eq (a := v) (b := 0) (by omega) (by decide)).mp e) (by omega)
                    have c_92_1 : ¬ nI v = 1 := fun e => absurd ((nI_eq (a := v) (b := 1) (by omega) (by decide)).mp e) (by omega)
                    have c_92_2 : ¬ nI v = 2 := fun e => absurd ((nI_eq (a := v) (b := 2) (by omega) (by decide)).mp e) (by omega)
                    have c_92_3 : ¬ nI v = 3 := fun e => absurd ((nI_eq (a := v) (b := 3) (by omega) (by decide)).mp e) (by omega)
                    have c_92_4 : ¬ nI v = 4 := fun e => absurd ((nI_eq (a := v) (b := 4) (by omega) (by decide)).mp e) (by omega)
                    refine lv_tableOut (tgt := 165) hx hb dX5_of_92 (sw_out4 c_92_0 c_92_1 c_92_2 c_92_3 c_92_4) (by decide) ?_
                    refine lv_iload_n hx hb dX5_of_165 rfl (lv_at hl 4 rfl) ?_
                    refine lv_bipush (v := 9) hx hb dX5_of_166 (by decide) ?_
                    refine lv_icmp_ge (tgt := 186) hx hb dX5_of_168 (by decide) (fun c_168 => ?_) (fun c_168 => ?_)
                    · exact absurd c_168 c_36
                    · have hkp : v - 5 < p := by
                        rw [hpp] at c_76
                        exact (nI_ltI (by omega) (by omega)).mp c_76
                      have hck : (nI (4 * (i + 1) + (v - 5))).toNatClampNeg = 4 * (i + 1) + (v - 5) := nI_clamp (by omega)
                      refine lv_aload_n hx hb dX5_of_171 rfl (lv_at hl 2 rfl) ?_
                      refine sx_get (ci := 5) (C := RX5) (T := TX5) (N := 24) (v := .ref (al 9 16)) hx hb hts inX5 hown hK (c8_at hI) rfl 20 (by decide) (hts _ w_3_56) rfl rfl dX5_of_172 ?_
                      refine lv_iconst (v := 4) hx hb dX5_of_175 (by decide) ?_
                      refine lv_iload_n hx hb dX5_of_176 rfl (lv_at hl 3 rfl) ?_
                      refine lv_imul hx hb dX5_of_177 ?_
                      refine W.eq (g2 := F0 m 178 ls (.int (nI (4 * (i + 1))) :: [.ref (al 9 16)])) (by rw [i4mul]) ?_
                      refine lv_iload hx hb dX5_of_178 (lv_at hl 0 rfl) ?_
                      refine lv_iadd hx hb dX5_of_180 ?_
                      refine W.eq (g2 := F0 m 181 ls (.int (nI (4 * (i + 1) + (v - 5))) :: [.ref (al 9 16)])) (by rw [nI_add]) ?_
                      refine sx_iald hx hb hK (c9_16_at hI) 0 rfl (vp_in_nI (show 4 * (i + 1) + (v - 5) < 244 by omega) (by decide)) dX5_of_181 ?_
                      rw [hck]
                      refine W.eq (g2 := F0 m 182 ls (.int (fI μ 9 16 (4 * (i + 1) + (v - 5))) :: [])) rfl ?_
                      refine lv_i2l hx hb dX5_of_182 rfl ?_
                      refine lv_goto (tgt := 197) hx hb dX5_of_183 (by decide) ?_
                      exact W.lret (v := (fI μ 9 16 (4 * (i + 1) + (v - 5))).toInt64) hx hb hr (fun t ht hW => ⟨⟨(fI μ 9 16 (4 * (i + 1) + (v - 5))).toInt64, uI μ 8 0 0 0, rfl, (by have e9 : nI v - 5 = nI (v - 5) := pk_sub (a := v) (b := 5) (by omega); unfold cOfM; rw [hix]; simp only [if_neg c_9, if_neg c_15, if_neg c_57, if_neg c_36]; rw [e9, if_pos c_76, nI_clamp (n := v - 5) (by omega)] <;> rfl), iv_giveM ht hI⟩, hS.F ht⟩) hS.2.2 dX5_of_197
                  · refine lv_aload_n hx hb dX5_of_79 rfl (lv_at hl 2 rfl) ?_
                    refine lv_iconst (v := 1) hx hb dX5_of_80 (by decide) ?_
                    refine va_calli (va_runV (As := [.int 1]) (rest := []) ⟨hx, hb, hml, hown, hts⟩ (m_refuse l D dA sa lo al σ μ 1) (cwV 1 hts (gdV w_3_126 w_3_128 wp_10 w_1_3 w_3_129) rfl rfl rfl (by decide +kernel) ⟨Nat.le_of_ble_eq_true rfl, Nat.le_of_ble_eq_true rfl⟩) ⟨iv_bl, sx_recv hK (c8_at hI) rfl, fun U hU hW => ⟨rfl, iv_use hI hwd hS hU hW⟩⟩ rfl rfl hl.1 rfl (lv_room (Nat.le_of_ble_eq_true rfl)) dX5_of_81 ⟨Nat.le_of_ble_eq_true rfl, Nat.le_of_ble_eq_true rfl⟩) hS (fun q _ h => h) (fun q h => h) (fun r_81 u9 T9 H1 locs ht9 hvm9 e_81 hB9 hz9 hk9 hS => ?_)
                    have hI := iv_takeM ht9 hB9
                    clear hB9 hk9
                    obtain ⟨rfl, rfl⟩ := e_81
                    refine lv_i2l hx hb dX5_of_84 rfl ?_
                    exact W.lret (v := (0 : Int32).toInt64) hx hb hr (fun t ht hW => ⟨⟨(0 : Int32).toInt64, uI μ 8 0 0 1, rfl, (by have e9 : nI v - 5 = nI (v - 5) := pk_sub (a := v) (b := 5) (by omega); unfold cOfM; rw [hix]; simp only [if_neg c_9, if_neg c_15, if_neg c_57, if_neg c_36]; rw [e9, if_neg c_76] <;> rfl), iv_giveM ht hI⟩, hS.F ht⟩) hS.2.2 dX5_of_85
        · refine lv_iconst (v := 0) hx hb dX5_of_29 (by decide) ?_
          refine lv_goto (tgt := 49) hx hb dX5_of_30 (by decide) ?_
          refine lv_istore (lv' := [(4, .int 0), (3, .int 1), (0, .ref (al 8 0)), (1, .int (nI (i + 1))), (2, .int (nI v))]) hx hb dX5_of_49 hl (by decide) rfl (fun ls hl => ?_)
          refine lv_iload_n hx hb dX5_of_51 rfl (lv_at hl 1 rfl) ?_
          refine lv_if_eq (tgt := 79) hx hb dX5_of_52 (by decide) (fun c_52 => ?_) (fun c_52 => ?_)
          · exact absurd c_52 (by decide)
          · refine lv_iload_n hx hb dX5_of_55 rfl (lv_at hl 4 rfl) ?_
            refine lv_iconst (v := 4) hx hb dX5_of_56 (by decide) ?_
            refine lv_icmp_le (tgt := 86) hx hb dX5_of_57 (by decide) (fun c_57 => ?_) (fun c_57 => ?_)
            · refine lv_aload_n hx hb dX5_of_86 rfl (lv_at hl 2 rfl) ?_
              refine lv_iconst (v := 0) hx hb dX5_of_87 (by decide) ?_
              refine sx_put (ci := 5) (v := .int 0) (ty := .int) (C := RX5) (T := TX5) (N := 24) hx hb hts inX5 tyX5 okX5 nmX5 hown hK hS (c8_at hI) (c8_lo hI) rfl 0 (by decide) (hts _ w_3_36) rfl rfl (by decide +kernel) rfl rfl (Nat.le_of_ble_eq_true rfl) dX5_of_88 (fun H locs hq => ?_)
              have hI := c8_uI (f := 0) (v := 0) hI rfl hq
              have hS := hq.2.2.2
              refine lv_iload_n hx hb dX5_of_91 rfl (lv_at hl 4 rfl) ?_
              have vc_26 : ¬ 5 ≤ v := fun h => c_26 ((nI_leI (a := 5) (b := v) (by decide) (by omega)).mpr h)
              have vc_57 : v ≤ 4 := (nI_leI (a := v) (b := 4) (by omega) (by decide)).mp c_57
              by_cases c_92_0 : nI v = 0
              · refine lv_tableIn (tgt := 128) hx hb dX5_of_92 (by rw [c_92_0]; decide) (by rw [c_92_0]; decide) (by rw [c_92_0]; rfl) (by decide) ?_
                refine lv_aload_n hx hb dX5_of_128 rfl (lv_at hl 2 rfl) ?_
                refine sx_get (ci := 5) (C := RX5) (T := TX5) (N := 24) (v := .ref (al 9 12)) hx hb hts inX5 hown hK (c8_at hI) rfl 16 (by decide) (hts _ w_3_52) rfl rfl dX5_of_129 ?_
                refine lv_iload_n hx hb dX5_of_132 rfl (lv_at hl 3 rfl) ?_
                refine sx_iald hx hb hK (c9_12_at hI) 0 rfl hvx dX5_of_133 ?_
                rw [hcx]
                refine W.eq (g2 := F0 m 134 ls (.int (fI μ 9 12 (i + 1)) :: [])) rfl ?_
                refine lv_i2l hx hb dX5_of_134 rfl ?_
                exact W.lret (v := (fI μ 9 12 (i + 1)).toInt64) hx hb hr (fun t ht hW => ⟨⟨(fI μ 9 12 (i + 1)).toInt64, uI μ 8 0 0 0, rfl, (by unfold cOfM; rw [hix]; simp only [if_neg c_9, if_neg c_15, if_pos c_57, if_pos c_92_0]), iv_giveM ht hI⟩, hS.F ht⟩) hS.2.2 dX5_of_135
              by_cases c_92_1 : nI v = 1
              · refine lv_tableIn (tgt := 136) hx hb dX5_of_92 (by rw [c_92_1]; decide) (by rw [c_92_1]; decide) (by rw [c_92_1]; rfl) (by decide) ?_
                refine lv_aload_n hx hb dX5_of_136 rfl (lv_at hl 2 rfl) ?_
                refine sx_get (ci := 5) (C := RX5) (T := TX5) (N := 24) (v := .ref (al 9 13)) hx hb hts inX5 hown hK (c8_at hI) rfl 17 (by decide) (hts _ w_3_53) rfl rfl dX5_of_137 ?_
                refine lv_iload_n hx hb dX5_of_140 rfl (lv_at hl 3 rfl) ?_
                refine sx_lald hx hb hK (c9_13_at hI) 1 rfl hvx dX5_of_141 ?_
                rw [hcx]
                refine W.eq (g2 := F0 m 142 ls (.long (fL μ 9 13 (i + 1)) :: [])) rfl ?_
                exact W.lret (v := fL μ 9 13 (i + 1)) hx hb hr (fun t ht hW => ⟨⟨fL μ 9 13 (i + 1), uI μ 8 0 0 0, rfl, (by unfold cOfM; rw [hix]; simp only [if_neg c_9, if_neg c_15, if_pos c_57, if_neg c_92_0, if_pos c_92_1]), iv_giveM ht hI⟩, hS.F ht⟩) hS.2.2 dX5_of_142
              by_cases c_92_2 : nI v = 2
              · refine lv_tableIn (tgt := 143) hx hb dX5_of_92 (by rw [c_92_2]; decide) (by rw [c_92_2]; decide) (by rw [c_92_2]; rfl) (by decide) ?_
                refine lv_aload_n hx hb dX5_of_143 rfl (lv_at hl 2 rfl) ?_
                refine lv_iload_n hx hb dX5_of_144 rfl (lv_at hl 3 rfl) ?_
                refine vp_callSl (W.runV (As := [.int (nI (i + 1))]) (rest := []) ⟨hx, hb, hml, hown, hts⟩ (m_covered l D dA sa lo al σ (uI μ 8 0 0 0) (i + 1) p (by omega) hp4 hpp) (cwV 1 hts (gdV w_3_194 w_3_196 wp_20 w_1_3 w_3_197) rfl rfl rfl (by decide +kernel) ⟨Nat.le_of_ble_eq_true rfl, Nat.le_of_ble_eq_true rfl⟩) ⟨iv_bl, sx_recv hK (c8_at hI) rfl, fun U hU hW => ⟨rfl, iv_use hI hwd hS hU hW⟩⟩ rfl rfl hl.1 rfl (lv_room (Nat.le_of_ble_eq_true rfl)) dX5_of_145 ⟨Nat.le_of_ble_eq_true rfl, Nat.le_of_ble_eq_true rfl⟩) (fun r_145 e_145 => ?_)
                subst e_145
                exact W.lret (v := mCov (uI μ 8 0 0 0) (i + 1) p) hx hb hr (fun t ht hW => ⟨⟨mCov (uI μ 8 0 0 0) (i + 1) p, uI μ 8 0 0 0, rfl, (by unfold cOfM; rw [hix]; simp only [if_neg c_9, if_neg c_15, if_pos c_57, if_neg c_92_0, if_neg c_92_1, if_pos c_92_2]; rw [hmp, mCov_th]), iv_giveM ht hI⟩, hS.F ht⟩) hS.2.2 dX5_of_148
              by_cases c_92_3 : nI v = 3
              · refine lv_tableIn (tgt := 149) hx hb dX5_of_92 (by rw [c_92_3]; decide) (by rw [c_92_3]; decide) (by rw [c_92_3]; rfl) (by decide) ?_
                refine lv_aload_n hx hb dX5_of_149 rfl (lv_at hl 2 rfl) ?_
                refine sx_get (ci := 5) (C := RX5) (T := TX5) (N := 24) (v := .ref (al 9 14)) hx hb hts inX5 hown hK (c8_at hI) rfl 18 (by decide) (hts _ w_3_54) rfl rfl dX5_of_150 ?_
                refine lv_iload_n hx hb dX5_of_153 rfl (lv_at hl 3 rfl) ?_
                refine sx_iald hx hb hK (c9_14_at hI) 0 rfl hvx dX5_of_154 ?_
                rw [hcx]
                refine W.eq (g2 := F0 m 155 ls (.int (fI μ 9 14 (i + 1)) :: [])) rfl ?_
                refine lv_i2l hx hb dX5_of_155 rfl ?_
                exact W.lret (v := (fI μ 9 14 (i + 1)).toInt64) hx hb hr (fun t ht hW => ⟨⟨(fI μ 9 14 (i + 1)).toInt64, uI μ 8 0 0 0, rfl, (by unfold cOfM; rw [hix]; simp only [if_neg c_9, if_neg c_15, if_pos c_57, if_neg c_92_0, if_neg c_92_1, if_neg c_92_2, if_pos c_92_3]), iv_giveM ht hI⟩, hS.F ht⟩) hS.2.2 dX5_of_156
              by_cases c_92_4 : nI v = 4
              · refine lv_tableIn (tgt := 157) hx hb dX5_of_92 (by rw [c_92_4]; decide) (by rw [c_92_4]; decide) (by rw [c_92_4]; rfl) (by decide) ?_
                refine lv_aload_n hx hb dX5_of_157 rfl (lv_at hl 2 rfl) ?_
                refine sx_get (ci := 5) (C := RX5) (T := TX5) (N := 24) (v := .ref (al 9 15)) hx hb hts inX5 hown hK (c8_at hI) rfl 19 (by decide) (hts _ w_3_55) rfl rfl dX5_of_158 ?_
                refine lv_iload_n hx hb dX5_of_161 rfl (lv_at hl 3 rfl) ?_
                refine sx_iald hx hb hK (c9_15_at hI) 0 rfl hvx dX5_of_162 ?_
                rw [hcx]
                refine W.eq (g2 := F0 m 163 ls (.int (fI μ 9 15 (i + 1)) :: [])) rfl ?_
                refine lv_i2l hx hb dX5_of_163 rfl ?_
                exact W.lret (v := (fI μ 9 15 (i + 1)).toInt64) hx hb hr (fun t ht hW => ⟨⟨(fI μ 9 15 (i + 1)).toInt64, uI μ 8 0 0 0, rfl, (by unfold cOfM; rw [hix]; simp only [if_neg c_9, if_neg c_15, if_pos c_57, if_neg c_92_0, if_neg c_92_1, if_neg c_92_2, if_neg c_92_3, if_pos c_92_4]), iv_giveM ht hI⟩, hS.F ht⟩) hS.2.2 dX5_of_164
              have e0 : v ≠ 0 := fun e => c_92_0 (by rw [e]; rfl)
              have e1 : v ≠ 1 := fun e => c_92_1 (by rw [e]; rfl)
              have e2 : v ≠ 2 := fun e => c_92_2 (by rw [e]; rfl)
              have e3 : v ≠ 3 := fun e => c_92_3 (by rw [e]; rfl)
              have e4 : v ≠ 4 := fun e => c_92_4 (by rw [e]; rfl)
              exfalso
              omega
            · exact absurd (show nI v ≤ 4 from (nI_leI (a := v) (b := 4) (by omega) (by decide)).mpr (by have : ¬ 5 ≤ v := fun h => c_26 ((nI_leI (a := 5) (b := v) (by decide) (by omega)).mpr h); omega)) c_57

set_option maxHeartbeats 4000000 in
set_option maxRecDepth 100000 in
theorem k_first (l : Launch) (D : va_G) (dA : Nat → ClassId) (sa : Nat → Nat) (lo : Nat) (al : Nat → Nat → Nat) (σ μ : CS) (x : Int32) (n r : Nat) (hw : WFc σ n r) (L : Nat → List Nat) (hL : ∀ h, h < 8 → Ch σ (fR σ 7 1 h) (L h)) (hnd : ∀ h, h < 8 → (L h).Nodup) (hmem : ∀ g h, g < n → h < 8 → fI σ 1 g 1 = nI h → g ∈ L h) : Met l yX0_first wsX0_first ({ frames := 1, cells := 0, slots := 0, locals := 30 }) (va_Pc [.ref (al 0 0), .int x] (ivP D dA sa lo al σ μ)) (va_Qi (fun z9 u => (z9, u) = cFirst σ n L x) (ivB D dA lo al μ) (fun q => lo ≤ q)) 0 0 (fun q => lo ≤ q) := by
  refine Met.ofW (cc := cX0_first) (maxL := 3) (ret := some .boolean) (by decide) rfl ?_
  intro p e s m args below meth c s₁ B hml hv
  obtain ⟨rfl, hI, hwd⟩ := hv
  have hx := B.exec
  have hb := B.bytes
  have hr := B.returns
  have hts : ∀ w ∈ WSall, w.before _ s = true := fun w h => atoms_spec (ws := wsX0_first) B.pre w (List.mem_cons_of_mem _ h)
  have hown : s.vm.findClass RX0 = some m.cls := findClass_of_methodNamed B.named
  have hlocks := B.notSynchronized
  have hK := hwd.1
  have hS : va_S (fun q => lo ≤ q) s.heap s.heap [] := va_S.rf
  have hl := lv_entry ([.ref (al 0 0), .int x]) (n := 3) (Nat.le_of_ble_eq_true rfl)
  rw [lg_entry_eq]
  generalize (lg_sl ([.ref (al 0 0), .int x]) ++ List.replicate (3 - (lg_sl ([.ref (al 0 0), .int x])).length) Slot.unset).toArray = ls at hl ⊢
  have hl : lv_has ls 3 [(0, .ref (al 0 0)), (1, .int x)] := hl
  obtain ⟨hnG, hnR, hn20, hr60, hgc, hrc, hdr, hgs, hrs, hho, hpa⟩ := id hw
  refine lv_aload_n hx hb dX0_first_0 rfl (lv_at hl 0 rfl) ?_
  refine lv_iload_n hx hb dX0_first_1 rfl (lv_at hl 1 rfl) ?_
  refine va_csq (W.runV (As := [.int x]) (rest := []) ⟨hx, hb, hml, hown, hts⟩ (k_guaranteeNumbered l D dA sa lo al σ μ x n hgc hn20 hgs) (cwV 1 hts (gdV w_1_94 w_1_96 wp_0 w_1_1 w_1_97) rfl rfl rfl (by decide +kernel) ⟨Nat.le_of_ble_eq_true rfl, Nat.le_of_ble_eq_true rfl⟩) ⟨iv_bl, sx_recv hK (c0_at hI) rfl, fun U hU hW => ⟨rfl, iv_use hI hwd hS hU hW⟩⟩ rfl rfl hl.1 rfl (lv_room (Nat.le_of_ble_eq_true rfl)) dX0_first_2 ⟨Nat.le_of_ble_eq_true rfl, Nat.le_of_ble_eq_true rfl⟩) (fun r_2 e_2 => ?_)
  rcases e_2 with ⟨i_2, hi_2, hxi_2, rfl⟩ | ⟨hxi_2, rfl⟩
  · have hix := gIx_some hi_2 (by omega) hxi_2
    have hbi_2 : i_2 < nG σ := (by rw [hnG]; exact hi_2)
    refine W.eq (g2 := F0 m 5 ls (.ref (al 1 i_2) :: [])) rfl ?_
    refine lv_astore_n (lv' := [(2, .ref (al 1 i_2)), (0, .ref (al 0 0)), (1, .int x)]) hx hb dX0_first_5 rfl hl (by decide) rfl (fun ls hl => ?_)
    refine lv_aload_n hx hb dX0_first_6 rfl (lv_at hl 0 rfl) ?_
    refine lv_ifnull hx hb dX0_first_7 ?_
    obtain ⟨h, hh, ho⟩ := hho i_2 hi_2
    have hch : (fI σ 1 i_2 1).toNatClampNeg = h := by rw [ho]; exact nI_clamp (by omega)
    have hvh : vp_in (fI σ 1 i_2 1) 8 := by rw [ho]; exact vp_in_nI hh (by decide)
    obtain ⟨A, B, hAB⟩ := List.append_of_mem (hmem i_2 h hi_2 hh ho)
    have hcc := hL h hh
    have hnd9 := hnd h hh
    rw [hAB] at hcc hnd9
    have hiA : i_2 ∉ A := fun q => by rw [List.nodup_append] at hnd9; exact hnd9.2.2 i_2 q i_2 List.mem_cons_self rfl
    rcases ls_snoc A with rfl | ⟨A, b, rfl⟩
    · have hfr : fR σ 7 1 h = some i_2 := hcc.1
      refine lv_aload_n hx hb dX0_first_10 rfl (lv_at hl 1 rfl) ?_
      refine sx_get (ci := 0) (C := RX0) (T := TX0) (N := 10) (v := .ref (al 7 1)) hx hb hts inX0 hown hK (c0_at hI) rfl 1 (by decide) (hts _ w_1_60) rfl rfl dX0_first_11 ?_
      refine lv_aload_n hx hb dX0_first_14 rfl (lv_at hl 0 rfl) ?_
      refine sx_getN (ci := 1) (C := RX1) (T := TX1) (N := 11) (v := .int (fI σ 1 i_2 1)) hx hb hts inX1 hown hK (c1_at hI hbi_2) rfl 1 (by decide) (va_Nw.use rfl (wd_n hwd (.fieldLinkNest "GuaranteeBook" 87 "GuaranteeBook$Guarantee" "holder" "I" "GuaranteeBook") (List.mem_of_getElem? (i := 13) rfl))) rfl rfl dX0_first_15 ?_
      refine sx_aldq hx hb hK (c7_1_at hI) 3 rfl hvh dX0_first_18 ?_
      rw [hch]
      refine W.eq (g2 := F0 m 19 ls (.ref (al 1 i_2) :: [])) (congrArg (fun z => F0 m 19 ls (va_rf (Option.map (al 1) z) :: [])) hfr) ?_
      refine lv_aload_n hx hb dX0_first_19 rfl (lv_at hl 0 rfl) ?_
      refine lv_acmp_ne (rx := some (al 1 i_2)) (ry := some (al 1 i_2)) (tgt := 25) hx hb dX0_first_20 (by decide) (fun c_20 => ?_) (fun c_20 => ?_)
      · exact absurd rfl c_20
      · refine lv_iconst (v := 0) hx hb dX0_first_23 (by decide) ?_
        exact W.zret (v := 0) hx hb hr rfl (fun t ht hW => ⟨⟨0, σ, rfl, (by unfold cFirst; rw [hix]; simp only []; rw [hch, if_pos hfr]), iv_give ht hI⟩, hS.F ht⟩) hS.2.2 dX0_first_24
    · rw [List.append_assoc] at hcc hnd9
      obtain ⟨z, hz, hzn, hzm⟩ := Ch_ne A b _ _ hcc
      have hzi : z ≠ i_2 := fun e => hiA (by rw [← e]; rcases hzm with q | q <;> simp [q])
      refine lv_aload_n hx hb dX0_first_10 rfl (lv_at hl 1 rfl) ?_
      refine sx_get (ci := 0) (C := RX0) (T := TX0) (N := 10) (v := .ref (al 7 1)) hx hb hts inX0 hown hK (c0_at hI) rfl 1 (by decide) (hts _ w_1_60) rfl rfl dX0_first_11 ?_
      refine lv_aload_n hx hb dX0_first_14 rfl (lv_at hl 0 rfl) ?_
      refine sx_getN (ci := 1) (C := RX1) (T := TX1) (N := 11) (v := .int (fI σ 1 i_2 1)) hx hb hts inX1 hown hK (c1_at hI hbi_2) rfl 1 (by decide) (va_Nw.use rfl (wd_n hwd (.fieldLinkNest "GuaranteeBook" 87 "GuaranteeBook$Guarantee" "holder" "I" "GuaranteeBook") (List.mem_of_getElem? (i := 13) rfl))) rfl rfl dX0_first_15 ?_
      refine sx_aldq hx hb hK (c7_1_at hI) 3 rfl hvh dX0_first_18 ?_
      rw [hch]
      refine W.eq (g2 := F0 m 19 ls (.ref (al 1 z) :: [])) (congrArg (fun z => F0 m 19 ls (va_rf (Option.map (al 1) z) :: [])) hz) ?_
      refine lv_aload_n hx hb dX0_first_19 rfl (lv_at hl 0 rfl) ?_
      refine lv_acmp_ne (rx := some (al 1 z)) (ry := some (al 1 i_2)) (tgt := 25) hx hb dX0_first_20 (by decide) (fun c_20 => ?_) (fun c_20 => ?_)
      · refine lv_aload_n hx hb dX0_first_25 rfl (lv_at hl 1 rfl) ?_
        refine lv_aload_n hx hb dX0_first_26 rfl (lv_at hl 0 rfl) ?_
        refine va_callv (va_runV (As := [.ref (al 1 i_2)]) (rest := []) ⟨hx, hb, hml, hown, hts⟩ (k_putFirst l D dA sa lo al σ μ i_2 h b hbi_2 hh ho A B hcc hnd9) (cwV 1 hts (gdV w_1_98 w_1_100 wp_1 w_1_1 w_1_101) rfl rfl rfl (by decide +kernel) ⟨Nat.le_of_ble_eq_true rfl, Nat.le_of_ble_eq_true rfl⟩) ⟨iv_bl, sx_recv hK (c0_at hI) rfl, fun U hU hW => ⟨rfl, iv_use hI hwd hS hU hW⟩⟩ rfl rfl hl.1 rfl (lv_room (Nat.le_of_ble_eq_true rfl)) dX0_first_27 ⟨Nat.le_of_ble_eq_true rfl, Nat.le_of_ble_eq_true rfl⟩) hS (fun q _ h => h) (fun q h => h) (fun u9 T9 H1 locs ht9 hvm9 e_27 hB9 hz9 hk9 hS => ?_)
        have hI := iv_take ht9 hB9
        clear hB9 hk9
        obtain rfl := e_27
        refine lv_iconst (v := 1) hx hb dX0_first_30 (by decide) ?_
        exact W.zret (v := 1) hx hb hr rfl (fun t ht hW => ⟨⟨1, pFirst σ h b i_2, rfl, (by unfold cFirst; rw [hix]; simp only []; rw [hch, if_neg (fun q => hzi (Option.some.inj (hz.symm.trans q))), hAB, List.append_assoc, List.singleton_append, prd_of hiA]), iv_give ht hI⟩, hS.F ht⟩) hS.2.2 dX0_first_31
      · exact absurd (iv_inj hI hzn hbi_2 (Option.some.inj c_20)) hzi
  · have hix := gIx_none hxi_2
    refine W.eq (g2 := F0 m 5 ls (.null :: [])) rfl ?_
    refine lv_astore_nN (lv' := [(2, .null), (0, .ref (al 0 0)), (1, .int x)]) hx hb dX0_first_5 rfl hl (by decide) rfl (fun ls hl => ?_)
    refine lv_aload_nN hx hb dX0_first_6 rfl (lv_at hl 0 rfl) ?_
    refine lv_ifnullN (tgt := 23) hx hb dX0_first_7 (by decide) ?_
    refine lv_iconst (v := 0) hx hb dX0_first_23 (by decide) ?_
    exact W.zret (v := 0) hx hb hr rfl (fun t ht hW => ⟨⟨0, σ, rfl, (by unfold cFirst; rw [hix]), iv_give ht hI⟩, hS.F ht⟩) hS.2.2 dX0_first_24

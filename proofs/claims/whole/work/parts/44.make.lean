set_option maxHeartbeats 4000000 in
set_option maxRecDepth 100000 in
theorem k_keepDraft (l : Launch) (D : va_G) (dA : Nat → ClassId) (sa : Nat → Nat) (lo : Nat) (al : Nat → Nat → Nat) (σ μ : CS) (r pq : Nat) (hnR : nR σ = r + 1) (hr9 : r < 60) (hrc : fI σ 0 0 7 = nI r) (hdr : fR σ 0 0 5 = some r) (hrg : RG σ) (hp : fI σ 4 r 2 = nI pq) (hp4 : pq ≤ 4) (hpg : ∀ k, k < pq → ∃ g, fR σ 5 r k = some g ∧ g < nG σ) : Met l yX0_keepDraft wsX0_keepDraft ({ frames := 4, cells := 3, slots := 14, locals := 150 }) (va_Pc [.ref (al 0 0)] (ivP D dA sa lo al σ μ)) (va_Qi (fun z9 (u : CS × (Nat → Nat → Nat)) => z9 = nI (r + 1) ∧ u.1 = kKeep σ r pq ∧ agree al u.2) (ivA D dA lo μ) (fun q => lo ≤ q)) 3 14 (fun q => lo ≤ q) := by
  refine Met.ofW (cc := cX0_keepDraft) (maxL := 1) (ret := some .int) (by decide) rfl ?_
  intro p e s m args below meth c s₁ B hml hv
  obtain ⟨rfl, hI, hwd⟩ := hv
  have hx := B.exec
  have hb := B.bytes
  have hr := B.returns
  have hts : ∀ w ∈ WSall, w.before _ s = true := fun w h => atoms_spec (ws := wsX0_keepDraft) B.pre w (List.mem_cons_of_mem _ h)
  have hown : s.vm.findClass RX0 = some m.cls := findClass_of_methodNamed B.named
  have hlocks := B.notSynchronized
  have hK := hwd.1
  have hS : va_S (fun q => lo ≤ q) s.heap s.heap [] := va_S.rf
  have hl := lv_entry ([.ref (al 0 0)]) (n := 1) (Nat.le_of_ble_eq_true rfl)
  rw [lg_entry_eq]
  generalize (lg_sl ([.ref (al 0 0)]) ++ List.replicate (1 - (lg_sl ([.ref (al 0 0)])).length) Slot.unset).toArray = ls at hl ⊢
  have hl : lv_has ls 1 [(0, .ref (al 0 0))] := hl
  have hrn : r < nR σ := by omega
  refine lv_aload_n hx hb dX0_keepDraft_0 rfl (lv_at hl 0 rfl) ?_
  refine sx_get (ci := 0) (C := RX0) (T := TX0) (N := 10) (v := .ref (al 4 r)) hx hb hts inX0 hown hK (c0_at hI) rfl 5 (by decide) (hts _ w_1_64) rfl (congrArg (fun (z : Option Nat) => some (va_rf (Option.map (al 4) z))) hdr) dX0_keepDraft_1 ?_
  refine va_callv (va_runV (As := []) (rest := []) ⟨hx, hb, hml, hown, hts⟩ (k_bindParts l D dA sa lo al σ μ r hrn pq hp hp4 hpg) (cwV 0 hts (gdV w_2_145 w_2_146 w_2_147 w_1_2 w_2_148) rfl rfl rfl (by decide +kernel) ⟨Nat.le_of_ble_eq_true rfl, Nat.le_of_ble_eq_true rfl⟩) ⟨iv_bl, sx_recv hK (c4_at hI hrn) rfl, fun U hU hW => ⟨rfl, iv_use hI hwd hS hU hW⟩⟩ rfl rfl hl.1 rfl (lv_room (Nat.le_of_ble_eq_true rfl)) dX0_keepDraft_4 ⟨Nat.le_of_ble_eq_true rfl, Nat.le_of_ble_eq_true rfl⟩) hS (fun q _ h => h) (fun q h => h) (fun u9 T9 H1 locs ht9 hvm9 e_4 hB9 hz9 hk9 hS => ?_)
  have hI := iv_take ht9 hB9
  clear hB9 hk9
  obtain rfl := e_4
  have hd9 : fR (rBind σ r pq) 0 0 5 = some r := by rw [rBind_R]; exact hdr
  have hr9 : r < nR (rBind σ r pq) := by rw [rBind_N]; exact hrn
  have hc9 : fI (rBind σ r pq) 0 0 7 = nI r := by rw [rBind_I (by decide)]; exact hrc
  have hcr : (fI (rBind σ r pq) 0 0 7).toNatClampNeg = r := by rw [hc9]; exact nI_clamp (by omega)
  refine lv_aload_n hx hb dX0_keepDraft_7 rfl (lv_at hl 0 rfl) ?_
  refine sx_get (ci := 0) (C := RX0) (T := TX0) (N := 10) (v := .ref (al 7 2)) hx hb hts inX0 hown hK (c0_at hI) rfl 2 (by decide) (hts _ w_1_61) rfl rfl dX0_keepDraft_8 ?_
  refine lv_aload_n hx hb dX0_keepDraft_11 rfl (lv_at hl 0 rfl) ?_
  refine sx_get (ci := 0) (C := RX0) (T := TX0) (N := 10) (v := .int (fI (rBind σ r pq) 0 0 7)) hx hb hts inX0 hown hK (c0_at hI) rfl 7 (by decide) (hts _ w_1_66) rfl rfl dX0_keepDraft_12 ?_
  refine lv_aload_n hx hb dX0_keepDraft_15 rfl (lv_at hl 0 rfl) ?_
  refine sx_get (ci := 0) (C := RX0) (T := TX0) (N := 10) (v := .ref (al 4 r)) hx hb hts inX0 hown hK (c0_at hI) rfl 5 (by decide) (hts _ w_1_64) rfl (congrArg (fun (z : Option Nat) => some (va_rf (Option.map (al 4) z))) hd9) dX0_keepDraft_16 ?_
  refine sx_astq (ci := 4) (r := (RX4, TX4, 6)) hx hb hK hS (c7_2_at hI) (c7_2_lo hI) 4 rfl (c4_at hI hr9) rfl (by rw [hc9]; exact vp_in_nI (by omega) (by decide)) dX0_keepDraft_19 (fun H locs hq => ?_)
  rw [hcr] at hq
  have hI := c7_2_uR (f := r) (v := r) hI hq
  have hS := hq.2.2.2
  refine lv_aload_n hx hb dX0_keepDraft_20 rfl (lv_at hl 0 rfl) ?_
  refine lv_dup hx hb dX0_keepDraft_21 rfl ?_
  refine sx_get (ci := 0) (C := RX0) (T := TX0) (N := 10) (v := .int (fI (rBind σ r pq) 0 0 7)) hx hb hts inX0 hown hK (c0_at hI) rfl 7 (by decide) (hts _ w_1_66) rfl rfl dX0_keepDraft_22 ?_
  refine lv_iconst (v := 1) hx hb dX0_keepDraft_25 (by decide) ?_
  refine lv_iadd hx hb dX0_keepDraft_26 ?_
  refine sx_put (ci := 0) (v := .int ((fI (rBind σ r pq) 0 0 7) + 1)) (ty := .int) (C := RX0) (T := TX0) (N := 10) hx hb hts inX0 tyX0 okX0 nmX0 hown hK hS (c0_at hI) (c0_lo hI) rfl 7 (by decide) (hts _ w_1_66) rfl rfl (by decide +kernel) rfl rfl (Nat.le_of_ble_eq_true rfl) dX0_keepDraft_27 (fun H locs hq => ?_)
  have hI := c0_uI (f := 7) (v := (fI (rBind σ r pq) 0 0 7) + 1) hI rfl hq
  have hS := hq.2.2.2
  refine lv_aload_n hx hb dX0_keepDraft_30 rfl (lv_at hl 0 rfl) ?_
  refine lv_dup hx hb dX0_keepDraft_31 rfl ?_
  refine sx_get (ci := 0) (C := RX0) (T := TX0) (N := 10) (v := .int (fI (rBind σ r pq) 0 0 8)) hx hb hts inX0 hown hK (c0_at hI) rfl 8 (by decide) (hts _ w_1_67) rfl rfl dX0_keepDraft_32 ?_
  refine lv_iconst (v := 1) hx hb dX0_keepDraft_35 (by decide) ?_
  refine lv_iadd hx hb dX0_keepDraft_36 ?_
  refine sx_put (ci := 0) (v := .int ((fI (rBind σ r pq) 0 0 8) + 1)) (ty := .int) (C := RX0) (T := TX0) (N := 10) hx hb hts inX0 tyX0 okX0 nmX0 hown hK hS (c0_at hI) (c0_lo hI) rfl 8 (by decide) (hts _ w_1_67) rfl rfl (by decide +kernel) rfl rfl (Nat.le_of_ble_eq_true rfl) dX0_keepDraft_37 (fun H locs hq => ?_)
  have hI := c0_uI (f := 8) (v := (fI (rBind σ r pq) 0 0 8) + 1) hI rfl hq
  have hS := hq.2.2.2
  refine lv_aload_n hx hb dX0_keepDraft_40 rfl (lv_at hl 0 rfl) ?_
  have hI : Inv D dA lo al (kDraft σ r pq) μ H := hI
  have hS0 := hS
  refine sx_new (ci := 4) (fs := [.null, .null, .int 0, .int 0, .long 0, .int 0]) (C := RX4) (T := TX4) (N := 6) hx hb hts inX4 tyX4 okX4 hown (hts _ w_1_24) (hts _ w_1_26) (hts _ w_1_2) hK hS rfl (by decide +kernel) (Nat.le_of_ble_eq_true rfl) (Nat.le_of_ble_eq_true rfl) dX0_keepDraft_41 (fun q9 H9 hq => ?_)
  obtain ⟨hqq, h_0, hzz, hold, hS⟩ := hq
  have hk0 := hold
  have hz : H9.size = q9 + 1 := by rw [hzz, hqq]
  have hq0 := hqq
  have hlo9 : lo ≤ q9 := by rw [hqq]; exact Nat.le_trans hwd.2.1 hS0.1
  refine W.widen (k := 1) (n := 6) (Nat.le_of_ble_eq_true rfl) (Nat.le_of_ble_eq_true rfl) ?_
  refine lv_dup hx hb dX0_keepDraft_44 rfl ?_
  refine va_callv (va_runIN (As := []) (rest := [.ref q9, .ref (al 0 0)]) ⟨hx, hb, hml, hown, hts⟩ (i_Reservation l D dA sa lo q9 (q9 + 1) hlo9) ⟨va_cnB 0 hts (gdI w_1_29) rfl rfl rfl (wd_n hwd (.methodLinkNest "GuaranteeBook" 32 ⟨"GuaranteeBook$Reservation", "<init>", "()V"⟩ "GuaranteeBook") (List.mem_of_getElem? (i := 0) rfl)) (hts _ w_1_2) (by decide +kernel) ⟨Nat.le_of_ble_eq_true rfl, Nat.le_of_ble_eq_true rfl⟩, rfl, hts _ w_1_28⟩ ⟨rw_bl, fun U hU hW => ⟨rfl, ⟨by rw [hU]; exact hz, by rw [hU]; exact rw_cons h_0 rw_nil⟩, wd_use hwd hS hU hW⟩⟩ rfl rfl hl.1 rfl (lv_room (Nat.le_of_ble_eq_true rfl)) dX0_keepDraft_45 ⟨Nat.le_of_ble_eq_true rfl, Nat.le_of_ble_eq_true rfl⟩) hS (fun (q : Nat) _ h => (by have h : q = q9 ∨ q9 + 1 ≤ q := h; rcases h with h | h <;> (show lo ≤ q; omega))) (fun (q : Nat) h => (by have h : q = q9 ∨ q9 + 1 ≤ q := h; rcases h with h | h <;> (show lo ≤ q; omega))) (fun u9 T9 H8 locs ht9 hvm9 e9 hB9 hz9 hk9 hS => ?_)
  obtain ⟨hz8, hP8⟩ := hB9
  rw [ht9] at hz8 hP8
  have h_0 := rw_get hP8 0 rfl
  have hk0 := fun x (hx : x < _) => (hk9 x (by rw [hz]; omega) (by show ¬ (x = _ ∨ _ ≤ x); omega)).trans (hk0 x hx)
  have hz := hz8
  refine W.widen (k := 3) (n := 14) (Nat.le_of_ble_eq_true rfl) (Nat.le_of_ble_eq_true rfl) ?_
  have h_5 := rw_get hP8 1 rfl
  have h_6 := rw_get hP8 2 rfl
  obtain ⟨al, hag, e4, hI⟩ : ∃ al', agree al al' ∧ al' 4 (r + 1) = q9 ∧ Inv D dA lo al' (rNew (kDraft σ r pq) (r + 1)) μ H8 := ⟨_, agree_R, by simp [alR], iv_rNew hI (Nat.le_trans hwd.2.1 hS0.1) (RG_kd hrg hrn) (by rw [nR_kd]; exact hnR) hq0.symm hk0 h_0 h_5 h_6⟩
  have e00 := hag 0 0 (Or.inl rfl)
  rw [← e00] at hl
  refine W.eq (g2 := F0 m 48 ls [.ref (al 4 (r + 1)), .ref (al 0 0)]) (by rw [e00, e4]) ?_
  refine sx_put (ci := 0) (v := .ref (al 4 (r + 1))) (ty := .object "GuaranteeBook$Reservation") (C := RX0) (T := TX0) (N := 10) hx hb hts inX0 tyX0 okX0 nmX0 hown hK hS (c0_at hI) (c0_lo hI) rfl 5 (by decide) (hts _ w_1_64) rfl rfl (by decide +kernel) rfl rfl (Nat.le_of_ble_eq_true rfl) dX0_keepDraft_48 (fun H locs hq => ?_)
  have hI := c0_uR (f := 5) (v := (some (r + 1))) hI rfl hq
  have hS := hq.2.2.2
  refine lv_aload_n hx hb dX0_keepDraft_51 rfl (lv_at hl 0 rfl) ?_
  refine sx_get (ci := 0) (C := RX0) (T := TX0) (N := 10) (v := .int (fI (rNew (kDraft σ r pq) (r + 1)) 0 0 7)) hx hb hts inX0 hown hK (c0_at hI) rfl 7 (by decide) (hts _ w_1_66) rfl rfl dX0_keepDraft_52 ?_
  exact W.iret (v := fI (rNew (kDraft σ r pq) (r + 1)) 0 0 7) hx hb hr (fun t ht hW => ⟨⟨fI (rNew (kDraft σ r pq) (r + 1)) 0 0 7, (uR (rNew (kDraft σ r pq) (r + 1)) 0 0 5 (some (r + 1)), al), rfl, ⟨(by rw [rNew_I0 (by decide)]; show fI (rBind σ r pq) 0 0 7 + 1 = _; rw [hc9, nI_1]), rfl, hag⟩, iv_giveA ht hI⟩, hS.F ht⟩) hS.2.2 dX0_keepDraft_55

set_option maxHeartbeats 4000000 in
set_option maxRecDepth 100000 in
theorem t_guarantee (l : Launch) (D : va_G) (dA : Nat → ClassId) (sa : Nat → Nat) (lo : Nat) (al : Nat → Nat → Nat) (σ μ : CS) (hlt : l.stackTraces = false) (h : Int32) (a : Int64) (ua d one rt : Int32) (hon : one = 0 ∨ one = 1) (n r : Nat) (hw : WFc σ n r) (hrg : RG σ) (L : Nat → List Nat) (hL : ∀ h, h < 8 → Ch σ (fR σ 7 1 h) (L h)) : vx_Met l yX0_guarantee wsX0_guarantee ({ frames := 6, cells := 3, slots := 17, locals := 160 }) (va_Pc [.ref (al 0 0), .int h, .long a, .int ua, .int d, .int one, .int rt] (ivP D dA sa lo al σ μ)) (va_Qi (fun z9 (u : CS × (Nat → Nat → Nat)) => cGu σ n L h a ua d one rt = (0, z9, u.1) ∧ agree al u.2) (ivA D dA lo μ) (fun q => lo ≤ q)) (vx_X (fun u : CS => u = σ) (fun E u t => ((E = "java/lang/IllegalArgumentException" ∧ (cGu σ n L h a ua d one rt).1 = 1) ∨ (E = "java/lang/IllegalStateException" ∧ (cGu σ n L h a ua d one rt).1 = 2)) ∧ ivB D dA lo al μ u t) (fun q => lo ≤ q)) 3 17 (fun q => lo ≤ q) := by
  refine vx_ofW (cc := cX0_guarantee) (maxL := 10) (ret := some .int) (by decide) rfl ?_
  intro p e s m args below meth c s₁ B hml hnoh hv
  obtain ⟨rfl, hI, hwd⟩ := hv
  have hx := B.exec
  have hb := B.bytes
  have hr := B.returns
  have hts : ∀ w ∈ WSall, w.before _ s = true := fun w h => atoms_spec (ws := wsX0_guarantee) B.pre w (List.mem_cons_of_mem _ h)
  have hown : s.vm.findClass RX0 = some m.cls := findClass_of_methodNamed B.named
  have hlocks := B.notSynchronized
  have hK := hwd.1
  have hS : va_S (fun q => lo ≤ q) s.heap s.heap [] := va_S.rf
  have hl := lv_entry ([.ref (al 0 0), .int h, .long a, .int ua, .int d, .int one, .int rt]) (n := 10) (Nat.le_of_ble_eq_true rfl)
  rw [lg_entry_eq]
  generalize (lg_sl ([.ref (al 0 0), .int h, .long a, .int ua, .int d, .int one, .int rt]) ++ List.replicate (10 - (lg_sl ([.ref (al 0 0), .int h, .long a, .int ua, .int d, .int one, .int rt])).length) Slot.unset).toArray = ls at hl ⊢
  have hl : lv_has ls 10 [(0, .ref (al 0 0)), (1, .int h), (2, .long a), (4, .int ua), (5, .int d), (6, .int one), (7, .int rt)] := hl
  obtain ⟨hnG, hnR, hn20, hr60, hgc, hrc, hdr, hgs, hrs, hho, hpa⟩ := id hw
  refine lv_iload_n hx hb dX0_guarantee_0 rfl (lv_at hl 1 rfl) ?_
  refine vp_callSi (W.runS (As := [.int h]) (rest := []) ⟨hx, hb, hml, hown, hts⟩ (k_isHolder l D dA sa lo al σ μ h) (cwS 1 hts (gdS w_1_139 w_1_140 w_1_1 w_1_141) rfl rfl rfl (by decide +kernel) ⟨Nat.le_of_ble_eq_true rfl, Nat.le_of_ble_eq_true rfl⟩) ⟨iv_bl, fun U hU hW => ⟨rfl, iv_use hI hwd hS hU hW⟩⟩ rfl rfl hl.1 rfl (lv_room (Nat.le_of_ble_eq_true rfl)) dX0_guarantee_1 ⟨Nat.le_of_ble_eq_true rfl, Nat.le_of_ble_eq_true rfl⟩) (fun r_1 e_1 => ?_)
  subst e_1
  refine lv_if_eq (tgt := 37) hx hb dX0_guarantee_4 (by decide) (fun c_4 => ?_) (fun c_4 => ?_)
  · have c_4 := bp_0.mp c_4
    exact vx_throwS (names := xnames) (text := "no such holder, amount, share or rate") (sa := sa 51) hx hb hlt hown xIAE_fit xn_fit (hts _ w_1_191) (hts _ w_1_7) (wd_s hwd (51, "no such holder, amount, share or rate") (List.mem_of_getElem? (i := 0) rfl)) (xIAE_hat hts (wd_n hwd)) xIAE_ot (wd_u hwd) (wd_v hwd) hS (hl.1.trans hml.symm) dX0_guarantee_37 dX0_guarantee_40 dX0_guarantee_41 dX0_guarantee_43 dX0_guarantee_46 (fun x h => (hnoh x h).elim) (Nat.le_of_ble_eq_true rfl) (Nat.le_of_ble_eq_true rfl) (Nat.le_of_ble_eq_true rfl) (Nat.le_of_ble_eq_true rfl) hlocks (fun t ha9 hz9 hq9 => ⟨_, rfl, ⟨Or.inl ⟨rfl, (by unfold cGu; rw [if_neg c_4])⟩, iv_kept hI hq9⟩, ⟨hz9, fun q h1 h2 => hq9 q h1⟩⟩) (fun z h => by cases h) (Nat.le_of_ble_eq_true rfl) (Nat.le_of_ble_eq_true rfl)
  · have c_4 := bp_n0.mp c_4
    refine lv_lload_n hx hb dX0_guarantee_7 rfl (lv_at hl 2 rfl) ?_
    refine vp_callSi (W.runS (As := [.long a]) (rest := []) ⟨hx, hb, hml, hown, hts⟩ (k_isCents l D dA sa lo al σ μ a) (cwS 1 hts (gdS w_1_184 w_1_185 w_1_1 w_1_186) rfl rfl rfl (by decide +kernel) ⟨Nat.le_of_ble_eq_true rfl, Nat.le_of_ble_eq_true rfl⟩) ⟨iv_bl, fun U hU hW => ⟨rfl, iv_use hI hwd hS hU hW⟩⟩ rfl rfl hl.1 rfl (lv_room (Nat.le_of_ble_eq_true rfl)) dX0_guarantee_8 ⟨Nat.le_of_ble_eq_true rfl, Nat.le_of_ble_eq_true rfl⟩) (fun r_8 e_8 => ?_)
    subst e_8
    refine lv_if_eq (tgt := 37) hx hb dX0_guarantee_11 (by decide) (fun c_11 => ?_) (fun c_11 => ?_)
    · have c_11 := bp_0.mp c_11
      exact vx_throwS (names := xnames) (text := "no such holder, amount, share or rate") (sa := sa 51) hx hb hlt hown xIAE_fit xn_fit (hts _ w_1_191) (hts _ w_1_7) (wd_s hwd (51, "no such holder, amount, share or rate") (List.mem_of_getElem? (i := 0) rfl)) (xIAE_hat hts (wd_n hwd)) xIAE_ot (wd_u hwd) (wd_v hwd) hS (hl.1.trans hml.symm) dX0_guarantee_37 dX0_guarantee_40 dX0_guarantee_41 dX0_guarantee_43 dX0_guarantee_46 (fun x h => (hnoh x h).elim) (Nat.le_of_ble_eq_true rfl) (Nat.le_of_ble_eq_true rfl) (Nat.le_of_ble_eq_true rfl) (Nat.le_of_ble_eq_true rfl) hlocks (fun t ha9 hz9 hq9 => ⟨_, rfl, ⟨Or.inl ⟨rfl, (by unfold cGu; rw [if_pos c_4, if_neg c_11])⟩, iv_kept hI hq9⟩, ⟨hz9, fun q h1 h2 => hq9 q h1⟩⟩) (fun z h => by cases h) (Nat.le_of_ble_eq_true rfl) (Nat.le_of_ble_eq_true rfl)
    · have c_11 := bp_n0.mp c_11
      refine lv_iload hx hb dX0_guarantee_14 (lv_at hl 3 rfl) ?_
      refine lv_iload hx hb dX0_guarantee_16 (lv_at hl 4 rfl) ?_
      refine vp_callSi (W.runS (As := [.int ua, .int d]) (rest := []) ⟨hx, hb, hml, hown, hts⟩ (k_isShare l D dA sa lo al σ μ ua d) (cwS 2 hts (gdS w_1_188 w_1_189 w_1_1 w_1_190) rfl rfl rfl (by decide +kernel) ⟨Nat.le_of_ble_eq_true rfl, Nat.le_of_ble_eq_true rfl⟩) ⟨iv_bl, fun U hU hW => ⟨rfl, iv_use hI hwd hS hU hW⟩⟩ rfl rfl hl.1 rfl (lv_room (Nat.le_of_ble_eq_true rfl)) dX0_guarantee_18 ⟨Nat.le_of_ble_eq_true rfl, Nat.le_of_ble_eq_true rfl⟩) (fun r_18 e_18 => ?_)
      subst e_18
      refine lv_if_eq (tgt := 37) hx hb dX0_guarantee_21 (by decide) (fun c_21 => ?_) (fun c_21 => ?_)
      · have c_21 := bp_0.mp c_21
        exact vx_throwS (names := xnames) (text := "no such holder, amount, share or rate") (sa := sa 51) hx hb hlt hown xIAE_fit xn_fit (hts _ w_1_191) (hts _ w_1_7) (wd_s hwd (51, "no such holder, amount, share or rate") (List.mem_of_getElem? (i := 0) rfl)) (xIAE_hat hts (wd_n hwd)) xIAE_ot (wd_u hwd) (wd_v hwd) hS (hl.1.trans hml.symm) dX0_guarantee_37 dX0_guarantee_40 dX0_guarantee_41 dX0_guarantee_43 dX0_guarantee_46 (fun x h => (hnoh x h).elim) (Nat.le_of_ble_eq_true rfl) (Nat.le_of_ble_eq_true rfl) (Nat.le_of_ble_eq_true rfl) (Nat.le_of_ble_eq_true rfl) hlocks (fun t ha9 hz9 hq9 => ⟨_, rfl, ⟨Or.inl ⟨rfl, (by unfold cGu; rw [if_pos c_4, if_pos c_11, if_neg c_21])⟩, iv_kept hI hq9⟩, ⟨hz9, fun q h1 h2 => hq9 q h1⟩⟩) (fun z h => by cases h) (Nat.le_of_ble_eq_true rfl) (Nat.le_of_ble_eq_true rfl)
      · have c_21 := bp_n0.mp c_21
        refine lv_iload hx hb dX0_guarantee_24 (lv_at hl 6 rfl) ?_
        refine lv_if_lt (tgt := 37) hx hb dX0_guarantee_26 (by decide) (fun c_26 => ?_) (fun c_26 => ?_)
        · exact vx_throwS (names := xnames) (text := "no such holder, amount, share or rate") (sa := sa 51) hx hb hlt hown xIAE_fit xn_fit (hts _ w_1_191) (hts _ w_1_7) (wd_s hwd (51, "no such holder, amount, share or rate") (List.mem_of_getElem? (i := 0) rfl)) (xIAE_hat hts (wd_n hwd)) xIAE_ot (wd_u hwd) (wd_v hwd) hS (hl.1.trans hml.symm) dX0_guarantee_37 dX0_guarantee_40 dX0_guarantee_41 dX0_guarantee_43 dX0_guarantee_46 (fun x h => (hnoh x h).elim) (Nat.le_of_ble_eq_true rfl) (Nat.le_of_ble_eq_true rfl) (Nat.le_of_ble_eq_true rfl) (Nat.le_of_ble_eq_true rfl) hlocks (fun t ha9 hz9 hq9 => ⟨_, rfl, ⟨Or.inl ⟨rfl, (by unfold cGu; rw [if_pos c_4, if_pos c_11, if_pos c_21, if_pos c_26])⟩, iv_kept hI hq9⟩, ⟨hz9, fun q h1 h2 => hq9 q h1⟩⟩) (fun z h => by cases h) (Nat.le_of_ble_eq_true rfl) (Nat.le_of_ble_eq_true rfl)
        · refine lv_iload hx hb dX0_guarantee_29 (lv_at hl 6 rfl) ?_
          refine lv_sipush (v := 1000) hx hb dX0_guarantee_31 (by decide) ?_
          refine lv_icmp_le (tgt := 47) hx hb dX0_guarantee_34 (by decide) (fun c_34 => ?_) (fun c_34 => ?_)
          · refine lv_aload_n hx hb dX0_guarantee_47 rfl (lv_at hl 0 rfl) ?_
            refine sx_get (ci := 0) (C := RX0) (T := TX0) (N := 10) (v := .int (fI σ 0 0 6)) hx hb hts inX0 hown hK (c0_at hI) rfl 6 (by decide) (hts _ w_1_65) rfl rfl dX0_guarantee_48 ?_
            refine lv_bipush (v := 20) hx hb dX0_guarantee_51 (by decide) ?_
            refine lv_icmp_lt (tgt := 66) hx hb dX0_guarantee_53 (by decide) (fun c_53 => ?_) (fun c_53 => ?_)
            · have hn9 : n < 20 := by
                rw [hgc] at c_53
                exact (nI_ltI (by omega) (by decide)).mp c_53
              obtain ⟨hN, hh, hhe⟩ := hold_in c_4
              have hS0 := hS
              refine lv_aload_n hx hb dX0_guarantee_66 rfl (lv_at hl 0 rfl) ?_
              refine sx_get (ci := 0) (C := RX0) (T := TX0) (N := 10) (v := .int (fI σ 0 0 6)) hx hb hts inX0 hown hK (c0_at hI) rfl 6 (by decide) (hts _ w_1_65) rfl rfl dX0_guarantee_67 ?_
              refine lv_iconst (v := 1) hx hb dX0_guarantee_70 (by decide) ?_
              refine lv_iadd hx hb dX0_guarantee_71 ?_
              refine W.eq (g2 := F0 m 72 ls (.int (nI (n + 1)) :: [])) (by rw [hgc, nI_1]) ?_
              refine lv_istore (lv' := [(8, .int (nI (n + 1))), (0, .ref (al 0 0)), (1, .int h), (2, .long a), (4, .int ua), (5, .int d), (6, .int one), (7, .int rt)]) hx hb dX0_guarantee_72 hl (by decide) rfl (fun ls hl => ?_)
              refine sx_new (ci := 1) (fs := [.int 0, .int 0, .null, .int 0, .null, .long 0, .long 0, .long 0, .int 0, .int 0, .null]) (C := RX1) (T := TX1) (N := 11) hx hb hts inX1 tyX1 okX1 hown (hts _ w_1_22) (hts _ w_2_35) (hts _ w_1_9) hK hS rfl (by decide +kernel) (Nat.le_of_ble_eq_true rfl) (Nat.le_of_ble_eq_true rfl) dX0_guarantee_74 (fun q9 H9 hq => ?_)
              obtain ⟨hqq, h_0, hzz, hold, hS⟩ := hq
              have hk0 := hold
              have hz : H9.size = q9 + 1 := by rw [hzz, hqq]
              have hq0 := hqq
              have hlo9 : lo ≤ q9 := by rw [hqq]; exact Nat.le_trans hwd.2.1 hS0.1
              refine W.widen (k := 1) (n := 11) (Nat.le_of_ble_eq_true rfl) (Nat.le_of_ble_eq_true rfl) ?_
              refine lv_dup hx hb dX0_guarantee_77 rfl ?_
              refine lv_iload hx hb dX0_guarantee_78 (lv_at hl 0 rfl) ?_
              refine lv_iload_n hx hb dX0_guarantee_80 rfl (lv_at hl 2 rfl) ?_
              refine lv_lload_n hx hb dX0_guarantee_81 rfl (lv_at hl 3 rfl) ?_
              refine sx_new (ci := 2) (fs := [.int 0, .int 0]) (C := RX2) (T := TX2) (N := 2) hx hb hts inX2 tyX2 okX2 hown (hts _ w_2_36) (hts _ w_2_37) (hts _ w_1_10) hK hS rfl (by decide +kernel) (Nat.le_of_ble_eq_true rfl) (Nat.le_of_ble_eq_true rfl) dX0_guarantee_82 (fun q8 H9 hq => ?_)
              obtain ⟨hqq, h_1, hzz, hold, hS⟩ := hq
              rw [hz] at hqq
              subst q8
              have h_0 := va_at.kept h_0 (hold _ (va_at.lt h_0))
              have hk0 := fun x hx => (hold x (by rw [hz]; omega)).trans (hk0 x hx)
              have hz : H9.size = q9 + 2 := by rw [hzz, hz]
              refine W.widen (k := 2) (n := 13) (Nat.le_of_ble_eq_true rfl) (Nat.le_of_ble_eq_true rfl) ?_
              refine lv_dup hx hb dX0_guarantee_85 rfl ?_
              refine lv_iload hx hb dX0_guarantee_86 (lv_at hl 4 rfl) ?_
              refine lv_iload hx hb dX0_guarantee_88 (lv_at hl 5 rfl) ?_
              refine va_callv (sx_runI (n := 2) (As := [.int ua, .int d]) (rest := [.ref (q9 + 1), .long a, .int h, .int (nI (n + 1)), .ref q9, .ref q9]) ⟨hx, hb, hml, hown, hts⟩ (i_Share l D dA sa lo (q9 + 1) (q9 + 2) ua d) (gdI w_2_40) rfl rfl rfl (hts _ w_1_10) (hts _ w_2_38) (hts _ w_2_39) rfl (by decide +kernel) ⟨Nat.le_of_ble_eq_true rfl, Nat.le_of_ble_eq_true rfl⟩ ⟨rw_bl, fun U hU hW => ⟨rfl, ⟨by rw [hU]; exact hz, by rw [hU]; exact rw_cons h_1 rw_nil⟩, wd_use hwd hS hU hW⟩⟩ rfl rfl hl.1 rfl (sx_room (Nat.le_of_ble_eq_true rfl)) dX0_guarantee_90 ⟨Nat.le_of_ble_eq_true rfl, Nat.le_of_ble_eq_true rfl⟩) hS (fun (q : Nat) _ h => (by have h : q = (q9 + 1) := h; (show lo ≤ q; omega))) (fun (q : Nat) h => (by have h : q = (q9 + 1) := h; (show lo ≤ q; omega))) (fun u9 T9 H8 locs ht9 hvm9 e9 hB9 hz9 hk9 hS => ?_)
              obtain ⟨hz8, hP8⟩ := hB9
              rw [ht9] at hz8 hP8
              have h_0 := va_at.kept h_0 (hk9 _ (va_at.lt h_0) (by show ¬ (_ = _); omega))
              have h_1 := rw_get hP8 0 rfl
              have hk0 := fun x (hx : x < _) => (hk9 x (by rw [hz]; omega) (by show ¬ (x = _); omega)).trans (hk0 x hx)
              have hz := hz8
              refine lv_iload hx hb dX0_guarantee_93 (lv_at hl 6 rfl) ?_
              refine sx_new (ci := 3) (fs := [.int 0, .long 0, .int 0, .int 0]) (C := RX3) (T := TX3) (N := 4) hx hb hts inX3 tyX3 okX3 hown (hts _ w_2_49) (hts _ w_2_50) (hts _ w_1_11) hK hS rfl (by decide +kernel) (Nat.le_of_ble_eq_true rfl) (Nat.le_of_ble_eq_true rfl) dX0_guarantee_95 (fun q8 H9 hq => ?_)
              obtain ⟨hqq, h_2, hzz, hold, hS⟩ := hq
              rw [hz] at hqq
              subst q8
              have h_0 := va_at.kept h_0 (hold _ (va_at.lt h_0))
              have h_1 := va_at.kept h_1 (hold _ (va_at.lt h_1))
              have hk0 := fun x hx => (hold x (by rw [hz]; omega)).trans (hk0 x hx)
              have hz : H9.size = q9 + 3 := by rw [hzz, hz]
              refine W.widen (k := 3) (n := 17) (Nat.le_of_ble_eq_true rfl) (Nat.le_of_ble_eq_true rfl) ?_
              refine lv_dup hx hb dX0_guarantee_98 rfl ?_
              refine lv_iload hx hb dX0_guarantee_99 (lv_at hl 7 rfl) ?_
              refine lv_aload_n hx hb dX0_guarantee_101 rfl (lv_at hl 1 rfl) ?_
              have hI0 := hI
              have hI := iv_kept hI hk0
              refine sx_get (ci := 0) (C := RX0) (T := TX0) (N := 10) (v := .int (fI σ 0 0 9)) hx hb hts inX0 hown hK (c0_at hI) rfl 9 (by decide) (hts _ w_1_68) rfl rfl dX0_guarantee_102 ?_
              have hI := hI0
              refine va_callv (sx_runI (n := 2) (As := [.int rt, .int (fI σ 0 0 9)]) (rest := [.ref (q9 + 2), .int one, .ref (q9 + 1), .long a, .int h, .int (nI (n + 1)), .ref q9, .ref q9]) ⟨hx, hb, hml, hown, hts⟩ (i_Interest l D dA sa lo (q9 + 2) (q9 + 3) rt (fI σ 0 0 9)) (gdI w_2_53) rfl rfl rfl (hts _ w_1_11) (hts _ w_2_51) (hts _ w_2_52) rfl (by decide +kernel) ⟨Nat.le_of_ble_eq_true rfl, Nat.le_of_ble_eq_true rfl⟩ ⟨rw_bl, fun U hU hW => ⟨rfl, ⟨by rw [hU]; exact hz, by rw [hU]; exact rw_cons h_2 rw_nil⟩, wd_use hwd hS hU hW⟩⟩ rfl rfl hl.1 rfl (sx_room (Nat.le_of_ble_eq_true rfl)) dX0_guarantee_105 ⟨Nat.le_of_ble_eq_true rfl, Nat.le_of_ble_eq_true rfl⟩) hS (fun (q : Nat) _ h => (by have h : q = (q9 + 2) := h; (show lo ≤ q; omega))) (fun (q : Nat) h => (by have h : q = (q9 + 2) := h; (show lo ≤ q; omega))) (fun u9 T9 H8 locs ht9 hvm9 e9 hB9 hz9 hk9 hS => ?_)
              obtain ⟨hz8, hP8⟩ := hB9
              rw [ht9] at hz8 hP8
              have h_0 := va_at.kept h_0 (hk9 _ (va_at.lt h_0) (by show ¬ (_ = _); omega))
              have h_1 := va_at.kept h_1 (hk9 _ (va_at.lt h_1) (by show ¬ (_ = _); omega))
              have h_2 := rw_get hP8 0 rfl
              have hk0 := fun x (hx : x < _) => (hk9 x (by rw [hz]; omega) (by show ¬ (x = _); omega)).trans (hk0 x hx)
              have hz := hz8
              refine va_callv (sx_runI (n := 6) (As := [.int (nI (n + 1)), .int h, .long a, .ref (q9 + 1), .int one, .ref (q9 + 2)]) (rest := [.ref q9]) ⟨hx, hb, hml, hown, hts⟩ (i_Guarantee l D dA sa lo q9 (q9 + 3) (nI (n + 1)) h a (q9 + 1) (q9 + 2) one hon) (gdI w_2_70) rfl rfl rfl (hts _ w_1_9) (hts _ w_2_68) (hts _ w_2_69) rfl (by decide +kernel) ⟨Nat.le_of_ble_eq_true rfl, Nat.le_of_ble_eq_true rfl⟩ ⟨rw_bl, fun U hU hW => ⟨rfl, ⟨by rw [hU]; exact hz, by rw [hU]; exact rw_cons h_0 rw_nil⟩, wd_use hwd hS hU hW⟩⟩ rfl rfl hl.1 rfl (sx_room (Nat.le_of_ble_eq_true rfl)) dX0_guarantee_108 ⟨Nat.le_of_ble_eq_true rfl, Nat.le_of_ble_eq_true rfl⟩) hS (fun (q : Nat) _ h => (by have h : q = q9 := h; (show lo ≤ q; omega))) (fun (q : Nat) h => (by have h : q = q9 := h; (show lo ≤ q; omega))) (fun u9 T9 H8 locs ht9 hvm9 e9 hB9 hz9 hk9 hS => ?_)
              obtain ⟨hz8, hP8⟩ := hB9
              rw [ht9] at hz8 hP8
              have h_1 := va_at.kept h_1 (hk9 _ (va_at.lt h_1) (by show ¬ (_ = _); omega))
              have h_2 := va_at.kept h_2 (hk9 _ (va_at.lt h_2) (by show ¬ (_ = _); omega))
              have h_0 := rw_get hP8 0 rfl
              have hk0 := fun x (hx : x < _) => (hk9 x (by rw [hz]; omega) (by show ¬ (x = _); omega)).trans (hk0 x hx)
              have hz := hz8
              obtain ⟨al, hag, e1, hI⟩ : ∃ al', agree al al' ∧ al' 1 n = q9 ∧ Inv D dA lo al' (gNew σ n (nI (n + 1)) h ua d one rt (fI σ 0 0 9) a) μ H8 := ⟨_, agree_G, by simp [alG], iv_gNew hI hwd.2.1 hrg hnG hq0.symm hk0 h_0 h_1 h_2⟩
              have e00 := hag 0 0 (Or.inl rfl)
              rw [← e00] at hl
              have hc9 : fI (gNew σ n (nI (n + 1)) h ua d one rt (fI σ 0 0 9) a) 0 0 6 = nI n := by rw [gNew_I0 (by decide)]; exact hgc
              have hcn : (fI (gNew σ n (nI (n + 1)) h ua d one rt (fI σ 0 0 9) a) 0 0 6).toNatClampNeg = n := by rw [hc9]; exact nI_clamp (by omega)
              refine W.eq (g2 := F0 m 111 ls [.ref (al 1 n)]) (by rw [e1]) ?_
              refine lv_astore (lv' := [(9, .ref (al 1 n)), (8, .int (nI (n + 1))), (0, .ref (al 0 0)), (1, .int h), (2, .long a), (4, .int ua), (5, .int d), (6, .int one), (7, .int rt)]) hx hb dX0_guarantee_111 hl (by decide) rfl (fun ls hl => ?_)
              refine lv_aload_n hx hb dX0_guarantee_113 rfl (lv_at hl 2 rfl) ?_
              refine sx_get (ci := 0) (C := RX0) (T := TX0) (N := 10) (v := .ref (al 7 0)) hx hb hts inX0 hown hK (c0_at hI) rfl 0 (by decide) (hts _ w_1_59) rfl rfl dX0_guarantee_114 ?_
              refine lv_aload_n hx hb dX0_guarantee_117 rfl (lv_at hl 2 rfl) ?_
              refine sx_get (ci := 0) (C := RX0) (T := TX0) (N := 10) (v := .int (fI (gNew σ n (nI (n + 1)) h ua d one rt (fI σ 0 0 9) a) 0 0 6)) hx hb hts inX0 hown hK (c0_at hI) rfl 6 (by decide) (hts _ w_1_65) rfl rfl dX0_guarantee_118 ?_
              refine lv_aload hx hb dX0_guarantee_121 (lv_at hl 0 rfl) ?_
              refine sx_astq (ci := 1) (r := (RX1, TX1, 11)) hx hb hK hS (c7_0_at hI) (c7_0_lo hI) 3 rfl (c1_at hI (Nat.lt_succ_self n)) rfl (by rw [hc9]; exact vp_in_nI hn9 (by decide)) dX0_guarantee_123 (fun H locs hq => ?_)
              rw [hcn] at hq
              have hI := c7_0_uR (f := n) (v := n) hI hq
              have hS := hq.2.2.2
              refine lv_aload_n hx hb dX0_guarantee_124 rfl (lv_at hl 2 rfl) ?_
              refine lv_iload hx hb dX0_guarantee_125 (lv_at hl 1 rfl) ?_
              refine sx_put (ci := 0) (v := .int (nI (n + 1))) (ty := .int) (C := RX0) (T := TX0) (N := 10) hx hb hts inX0 tyX0 okX0 nmX0 hown hK hS (c0_at hI) (c0_lo hI) rfl 6 (by decide) (hts _ w_1_65) rfl rfl (by decide +kernel) rfl rfl (Nat.le_of_ble_eq_true rfl) dX0_guarantee_127 (fun H locs hq => ?_)
              have hI := c0_uI (f := 6) (v := nI (n + 1)) hI rfl hq
              have hS := hq.2.2.2
              refine lv_aload_n hx hb dX0_guarantee_130 rfl (lv_at hl 2 rfl) ?_
              refine lv_aload hx hb dX0_guarantee_131 (lv_at hl 0 rfl) ?_
              refine va_callv (va_runV (As := [.ref (al 1 n)]) (rest := []) ⟨hx, hb, hml, hown, hts⟩ (k_putLast l D dA sa lo al (uI (uR (gNew σ n (nI (n + 1)) h ua d one rt (fI σ 0 0 9) a) 7 0 n (some n)) 0 0 6 (nI (n + 1))) μ n hN (Nat.lt_succ_self n) hh (by rw [← hhe]; show fI (gNew σ n (nI (n + 1)) h ua d one rt (fI σ 0 0 9) a) 1 n 1 = h; simp [gNew, fI]) (L hN) (by have e7 : fR (uI (uR (gNew σ n (nI (n + 1)) h ua d one rt (fI σ 0 0 9) a) 7 0 n (some n)) 0 0 6 (nI (n + 1))) 7 1 hN = fR σ 7 1 hN := (by show up3 (fR (gNew σ n (nI (n + 1)) h ua d one rt (fI σ 0 0 9) a)) 7 0 n (some n) 7 1 hN = _; rw [up3_ne _ _ _ (by omega), gNew_R (by omega)]); rw [e7]; exact Ch_mono (σ := σ) (σ' := uI (uR (gNew σ n (nI (n + 1)) h ua d one rt (fI σ 0 0 9) a) 7 0 n (some n)) 0 0 6 (nI (n + 1))) (fun i hi => (show fR (gNew σ n (nI (n + 1)) h ua d one rt (fI σ 0 0 9) a) 1 i = fR σ 1 i from gNew_R (by omega))) (by show nG σ ≤ n + 1; omega) (L hN) _ (hL hN hh))) (cwV 1 hts (gdV w_2_115 w_2_117 wp_4 w_1_1 w_2_118) rfl rfl rfl (by decide +kernel) ⟨Nat.le_of_ble_eq_true rfl, Nat.le_of_ble_eq_true rfl⟩) ⟨iv_bl, sx_recv hK (c0_at hI) rfl, fun U hU hW => ⟨rfl, iv_use hI hwd hS hU hW⟩⟩ rfl rfl hl.1 rfl (lv_room (Nat.le_of_ble_eq_true rfl)) dX0_guarantee_133 ⟨Nat.le_of_ble_eq_true rfl, Nat.le_of_ble_eq_true rfl⟩) hS (fun q _ h => h) (fun q h => h) (fun u9 T9 H1 locs ht9 hvm9 e_133 hB9 hz9 hk9 hS => ?_)
              have hI := iv_take ht9 hB9
              clear hB9 hk9
              obtain rfl := e_133
              refine lv_iload hx hb dX0_guarantee_136 (lv_at hl 1 rfl) ?_
              refine W.widen (k := 3) (n := 17) (Nat.le_of_ble_eq_true rfl) (Nat.le_of_ble_eq_true rfl) ?_
              exact vx_ret (W.iret (v := nI (n + 1)) hx hb hr (fun t ht hW => ⟨⟨nI (n + 1), (pLast (uI (uR (gNew σ n (nI (n + 1)) h ua d one rt (fI σ 0 0 9) a) 7 0 n (some n)) 0 0 6 (nI (n + 1))) hN n (L hN), al), rfl, ⟨(by unfold cGu; rw [if_pos c_4, if_pos c_11, if_pos c_21, if_neg c_26, if_pos c_34, if_pos (show nI n < 20 by rw [← hgc]; exact c_53), show h.toNatClampNeg = hN by rw [hhe]; exact nI_clamp (by omega)]), hag⟩, iv_giveA ht hI⟩, hS.F ht⟩) hS.2.2 dX0_guarantee_138)
            · exact vx_throwS (names := xnames) (text := "there are as many guarantees as there may be") (sa := sa 62) hx hb hlt hown xISE_fit xn_fit (hts _ w_2_19) (hts _ w_1_8) (wd_s hwd (62, "there are as many guarantees as there may be") (List.mem_of_getElem? (i := 1) rfl)) (xISE_hat hts (wd_n hwd)) xISE_ot (wd_u hwd) (wd_v hwd) hS (hl.1.trans hml.symm) dX0_guarantee_56 dX0_guarantee_59 dX0_guarantee_60 dX0_guarantee_62 dX0_guarantee_65 (fun x h => (hnoh x h).elim) (Nat.le_of_ble_eq_true rfl) (Nat.le_of_ble_eq_true rfl) (Nat.le_of_ble_eq_true rfl) (Nat.le_of_ble_eq_true rfl) hlocks (fun t ha9 hz9 hq9 => ⟨_, rfl, ⟨Or.inr ⟨rfl, (by unfold cGu; rw [if_pos c_4, if_pos c_11, if_pos c_21, if_neg c_26, if_pos c_34, if_neg (show ¬ nI n < 20 by rw [← hgc]; exact c_53)])⟩, iv_kept hI hq9⟩, ⟨hz9, fun q h1 h2 => hq9 q h1⟩⟩) (fun z h => by cases h) (Nat.le_of_ble_eq_true rfl) (Nat.le_of_ble_eq_true rfl)
          · exact vx_throwS (names := xnames) (text := "no such holder, amount, share or rate") (sa := sa 51) hx hb hlt hown xIAE_fit xn_fit (hts _ w_1_191) (hts _ w_1_7) (wd_s hwd (51, "no such holder, amount, share or rate") (List.mem_of_getElem? (i := 0) rfl)) (xIAE_hat hts (wd_n hwd)) xIAE_ot (wd_u hwd) (wd_v hwd) hS (hl.1.trans hml.symm) dX0_guarantee_37 dX0_guarantee_40 dX0_guarantee_41 dX0_guarantee_43 dX0_guarantee_46 (fun x h => (hnoh x h).elim) (Nat.le_of_ble_eq_true rfl) (Nat.le_of_ble_eq_true rfl) (Nat.le_of_ble_eq_true rfl) (Nat.le_of_ble_eq_true rfl) hlocks (fun t ha9 hz9 hq9 => ⟨_, rfl, ⟨Or.inl ⟨rfl, (by unfold cGu; rw [if_pos c_4, if_pos c_11, if_pos c_21, if_neg c_26, if_neg c_34])⟩, iv_kept hI hq9⟩, ⟨hz9, fun q h1 h2 => hq9 q h1⟩⟩) (fun z h => by cases h) (Nat.le_of_ble_eq_true rfl) (Nat.le_of_ble_eq_true rfl)

set_option maxHeartbeats 4000000 in
set_option maxRecDepth 100000 in
theorem t_reserve (l : Launch) (D : va_G) (dA : Nat → ClassId) (sa : Nat → Nat) (lo : Nat) (al : Nat → Nat → Nat) (σ μ : CS) (hlt : l.stackTraces = false) (d h : Int32) (x : Int64) (n r : Nat) (hw : WFc σ n r) (hrg : RG σ) (L : Nat → List Nat) (hL : ∀ h, h < 8 → Ch σ (fR σ 7 1 h) (L h)) : vx_Met l yX0_reserve wsX0_reserve ({ frames := 6, cells := 3, slots := 14, locals := 180 }) (va_Pc [.ref (al 0 0), .int d, .int h, .long x] (ivP D dA sa lo al σ μ)) (va_Qi (fun z9 (u : CS × (Nat → Nat → Nat)) => cRes σ r L d h x = (0, z9, u.1) ∧ agree al u.2) (ivA D dA lo μ) (fun q => lo ≤ q)) (vx_X (fun u : CS => u = σ) (fun E u t => ((E = "java/lang/IllegalArgumentException" ∧ (cRes σ r L d h x).1 = 1) ∨ (E = "java/lang/IllegalStateException" ∧ (cRes σ r L d h x).1 = 2)) ∧ ivB D dA lo al μ u t) (fun q => lo ≤ q)) 3 14 (fun q => lo ≤ q) := by
  refine vx_ofW (cc := cX0_reserve) (maxL := 5) (ret := some .int) (by decide) rfl ?_
  intro p e s m args below meth c s₁ B hml hnoh hv
  obtain ⟨rfl, hI, hwd⟩ := hv
  have hx := B.exec
  have hb := B.bytes
  have hr := B.returns
  have hts : ∀ w ∈ WSall, w.before _ s = true := fun w h => atoms_spec (ws := wsX0_reserve) B.pre w (List.mem_cons_of_mem _ h)
  have hown : s.vm.findClass RX0 = some m.cls := findClass_of_methodNamed B.named
  have hlocks := B.notSynchronized
  have hK := hwd.1
  have hS : va_S (fun q => lo ≤ q) s.heap s.heap [] := va_S.rf
  have hl := lv_entry ([.ref (al 0 0), .int d, .int h, .long x]) (n := 5) (Nat.le_of_ble_eq_true rfl)
  rw [lg_entry_eq]
  generalize (lg_sl ([.ref (al 0 0), .int d, .int h, .long x]) ++ List.replicate (5 - (lg_sl ([.ref (al 0 0), .int d, .int h, .long x])).length) Slot.unset).toArray = ls at hl ⊢
  have hl : lv_has ls 5 [(0, .ref (al 0 0)), (1, .int d), (2, .int h), (3, .long x)] := hl
  obtain ⟨hnG, hnR, hn20, hr60, hgc, hrc, hdr, hgs, hrs, hho, hpa⟩ := id hw
  refine lv_iload_n hx hb dX0_reserve_0 rfl (lv_at hl 1 rfl) ?_
  refine vp_callSi (W.runS (As := [.int d]) (rest := []) ⟨hx, hb, hml, hown, hts⟩ (k_isDesk l D dA sa lo al σ μ d) (cwS 1 hts (gdS w_1_127 w_1_128 w_1_1 w_1_129) rfl rfl rfl (by decide +kernel) ⟨Nat.le_of_ble_eq_true rfl, Nat.le_of_ble_eq_true rfl⟩) ⟨iv_bl, fun U hU hW => ⟨rfl, iv_use hI hwd hS hU hW⟩⟩ rfl rfl hl.1 rfl (lv_room (Nat.le_of_ble_eq_true rfl)) dX0_reserve_1 ⟨Nat.le_of_ble_eq_true rfl, Nat.le_of_ble_eq_true rfl⟩) (fun r_1 e_1 => ?_)
  subst e_1
  refine lv_if_eq (tgt := 21) hx hb dX0_reserve_4 (by decide) (fun c_4 => ?_) (fun c_4 => ?_)
  · have c_4 := bp_0.mp c_4
    exact vx_throwS (names := xnames) (text := "no such desk, holder or debt") (sa := sa 96) hx hb hlt hown xIAE_fit xn_fit (hts _ w_1_191) (hts _ w_1_7) (wd_s hwd (96, "no such desk, holder or debt") (List.mem_of_getElem? (i := 2) rfl)) (xIAE_hat hts (wd_n hwd)) xIAE_ot (wd_u hwd) (wd_v hwd) hS (hl.1.trans hml.symm) dX0_reserve_21 dX0_reserve_24 dX0_reserve_25 dX0_reserve_27 dX0_reserve_30 (fun x h => (hnoh x h).elim) (Nat.le_of_ble_eq_true rfl) (Nat.le_of_ble_eq_true rfl) (Nat.le_of_ble_eq_true rfl) (Nat.le_of_ble_eq_true rfl) hlocks (fun t ha9 hz9 hq9 => ⟨_, rfl, ⟨Or.inl ⟨rfl, (by unfold cRes; rw [if_neg c_4])⟩, iv_kept hI hq9⟩, ⟨hz9, fun q h1 h2 => hq9 q h1⟩⟩) (fun z h => by cases h) (Nat.le_of_ble_eq_true rfl) (Nat.le_of_ble_eq_true rfl)
  · have c_4 := bp_n0.mp c_4
    refine lv_iload_n hx hb dX0_reserve_7 rfl (lv_at hl 2 rfl) ?_
    refine vp_callSi (W.runS (As := [.int h]) (rest := []) ⟨hx, hb, hml, hown, hts⟩ (k_isHolder l D dA sa lo al σ μ h) (cwS 1 hts (gdS w_1_139 w_1_140 w_1_1 w_1_141) rfl rfl rfl (by decide +kernel) ⟨Nat.le_of_ble_eq_true rfl, Nat.le_of_ble_eq_true rfl⟩) ⟨iv_bl, fun U hU hW => ⟨rfl, iv_use hI hwd hS hU hW⟩⟩ rfl rfl hl.1 rfl (lv_room (Nat.le_of_ble_eq_true rfl)) dX0_reserve_8 ⟨Nat.le_of_ble_eq_true rfl, Nat.le_of_ble_eq_true rfl⟩) (fun r_8 e_8 => ?_)
    subst e_8
    refine lv_if_eq (tgt := 21) hx hb dX0_reserve_11 (by decide) (fun c_11 => ?_) (fun c_11 => ?_)
    · have c_11 := bp_0.mp c_11
      exact vx_throwS (names := xnames) (text := "no such desk, holder or debt") (sa := sa 96) hx hb hlt hown xIAE_fit xn_fit (hts _ w_1_191) (hts _ w_1_7) (wd_s hwd (96, "no such desk, holder or debt") (List.mem_of_getElem? (i := 2) rfl)) (xIAE_hat hts (wd_n hwd)) xIAE_ot (wd_u hwd) (wd_v hwd) hS (hl.1.trans hml.symm) dX0_reserve_21 dX0_reserve_24 dX0_reserve_25 dX0_reserve_27 dX0_reserve_30 (fun x h => (hnoh x h).elim) (Nat.le_of_ble_eq_true rfl) (Nat.le_of_ble_eq_true rfl) (Nat.le_of_ble_eq_true rfl) (Nat.le_of_ble_eq_true rfl) hlocks (fun t ha9 hz9 hq9 => ⟨_, rfl, ⟨Or.inl ⟨rfl, (by unfold cRes; rw [if_pos c_4, if_neg c_11])⟩, iv_kept hI hq9⟩, ⟨hz9, fun q h1 h2 => hq9 q h1⟩⟩) (fun z h => by cases h) (Nat.le_of_ble_eq_true rfl) (Nat.le_of_ble_eq_true rfl)
    · have c_11 := bp_n0.mp c_11
      refine lv_lload_n hx hb dX0_reserve_14 rfl (lv_at hl 3 rfl) ?_
      refine vp_callSi (W.runS (As := [.long x]) (rest := []) ⟨hx, hb, hml, hown, hts⟩ (k_isCents l D dA sa lo al σ μ x) (cwS 1 hts (gdS w_1_184 w_1_185 w_1_1 w_1_186) rfl rfl rfl (by decide +kernel) ⟨Nat.le_of_ble_eq_true rfl, Nat.le_of_ble_eq_true rfl⟩) ⟨iv_bl, fun U hU hW => ⟨rfl, iv_use hI hwd hS hU hW⟩⟩ rfl rfl hl.1 rfl (lv_room (Nat.le_of_ble_eq_true rfl)) dX0_reserve_15 ⟨Nat.le_of_ble_eq_true rfl, Nat.le_of_ble_eq_true rfl⟩) (fun r_15 e_15 => ?_)
      subst e_15
      refine lv_if_ne (tgt := 31) hx hb dX0_reserve_18 (by decide) (fun c_18 => ?_) (fun c_18 => ?_)
      · have c_18 := bp_n0.mp c_18
        refine lv_aload_n hx hb dX0_reserve_31 rfl (lv_at hl 0 rfl) ?_
        refine sx_get (ci := 0) (C := RX0) (T := TX0) (N := 10) (v := .int (fI σ 0 0 7)) hx hb hts inX0 hown hK (c0_at hI) rfl 7 (by decide) (hts _ w_1_66) rfl rfl dX0_reserve_32 ?_
        refine lv_bipush (v := 60) hx hb dX0_reserve_35 (by decide) ?_
        refine lv_icmp_lt (tgt := 50) hx hb dX0_reserve_37 (by decide) (fun c_37 => ?_) (fun c_37 => ?_)
        · have hr9 : r < 60 := by
            rw [hrc] at c_37
            exact (nI_ltI (by omega) (by decide)).mp c_37
          obtain ⟨hN, hh, rfl⟩ := hold_in c_11
          have hcN : (nI hN).toNatClampNeg = hN := nI_clamp (by omega)
          have hl : lv_has ls 5 [(0, .ref (al 0 0)), (1, .int d), (2, .int (nI hN)), (3, .long x)] := hl
          refine lv_aload_n hx hb dX0_reserve_50 rfl (lv_at hl 0 rfl) ?_
          refine lv_iload_n hx hb dX0_reserve_51 rfl (lv_at hl 2 rfl) ?_
          refine lv_lload_n hx hb dX0_reserve_52 rfl (lv_at hl 3 rfl) ?_
          refine va_calli (va_runV (As := [.int (nI hN), .long x]) (rest := []) ⟨hx, hb, hml, hown, hts⟩ (k_draftCovers l D dA sa lo al σ μ r (by omega) hdr hN hh (L hN) (hL hN hh) x) (cwV 2 hts (gdV w_2_128 w_2_130 wp_5 w_1_1 w_2_131) rfl rfl rfl (by decide +kernel) ⟨Nat.le_of_ble_eq_true rfl, Nat.le_of_ble_eq_true rfl⟩) ⟨iv_bl, sx_recv hK (c0_at hI) rfl, fun U hU hW => ⟨rfl, iv_use hI hwd hS hU hW⟩⟩ rfl rfl hl.1 rfl (lv_room (Nat.le_of_ble_eq_true rfl)) dX0_reserve_53 ⟨Nat.le_of_ble_eq_true rfl, Nat.le_of_ble_eq_true rfl⟩) hS (fun q _ h => h) (fun q h => h) (fun r_53 u9 T9 H1 locs ht9 hvm9 e_53 hB9 hz9 hk9 hS => ?_)
          have hI := iv_take ht9 hB9
          clear hB9 hk9
          obtain ⟨rfl, rfl⟩ := e_53
          obtain ⟨q, hdk⟩ := dr_lay (r := r) (h := nI hN) (x := x) hnG (fun g hg => by have := Ch_mem _ _ (hL hN hh) g hg; omega)
          have hcY : Ch (dLay (rBeg σ r (nI hN) x) r (L hN) x 0).1 (fR (dLay (rBeg σ r (nI hN) x) r (L hN) x 0).1 7 1 hN) (L hN) := by rw [hdk.rk 7 (by decide)]; exact Ch_of (hdk.rk 1 (by decide)) (by rw [hdk.dg, hnG]) _ _ (hL hN hh)
          refine lv_if_ne (tgt := 70) hx hb dX0_reserve_56 (by decide) (fun c_56 => ?_) (fun c_56 => ?_)
          · have c_56 := b2i_n0.mp c_56
            refine lv_aload_n hx hb dX0_reserve_70 rfl (lv_at hl 0 rfl) ?_
            refine sx_get (ci := 0) (C := RX0) (T := TX0) (N := 10) (v := .ref (al 7 3)) hx hb hts inX0 hown hK (c0_at hI) rfl 3 (by decide) (hts _ w_1_62) rfl rfl dX0_reserve_71 ?_
            refine lv_iload_n hx hb dX0_reserve_74 rfl (lv_at hl 1 rfl) ?_
            refine sx_zald hx hb hK (c7_3_at hI) 2 rfl (desk_vp c_4) dX0_reserve_75 ?_
            refine lv_if_eq (tgt := 98) hx hb dX0_reserve_76 (by decide) (fun c_76 => ?_) (fun c_76 => ?_)
            · refine lv_aload_n hx hb dX0_reserve_98 rfl (lv_at hl 0 rfl) ?_
              refine va_calli (va_runV (As := []) (rest := []) ⟨hx, hb, hml, hown, hts⟩ (k_keepDraft l D dA sa lo al (dLay (rBeg σ r (nI hN) x) r (L hN) x 0).1 μ r q (by rw [hdk.dr, hnR]) hr9 (by rw [hdk.ik 0 (by decide)]; exact hrc) (by rw [hdk.rk 0 (by decide)]; exact hdr) (hdk.rg hrg) hdk.p hdk.q4 (by rw [hdk.dg]; exact hdk.pg)) (cwV 0 hts (gdV w_2_141 w_2_143 wp_6 w_1_1 w_2_144) rfl rfl rfl (by decide +kernel) ⟨Nat.le_of_ble_eq_true rfl, Nat.le_of_ble_eq_true rfl⟩) ⟨iv_bl, sx_recv hK (c0_at hI) rfl, fun U hU hW => ⟨rfl, iv_use hI hwd hS hU hW⟩⟩ rfl rfl hl.1 rfl (lv_room (Nat.le_of_ble_eq_true rfl)) dX0_reserve_99 ⟨Nat.le_of_ble_eq_true rfl, Nat.le_of_ble_eq_true rfl⟩) hS (fun q _ h => h) (fun q h => h) (fun r_99 u9 T9 H1 locs ht9 hvm9 e_99 hB9 hz9 hk9 hS => ?_)
              obtain ⟨u8, al8⟩ := u9
              have hI := iv_takeA ht9 hB9
              obtain ⟨rfl, e8, hag⟩ := e_99
              have e8 : u8 = kKeep (dLay (rBeg σ r (nI hN) x) r (L hN) x 0).1 r q := e8
              subst e8
              have hag : agree al al8 := hag
              have hI : Inv D dA lo al8 (kKeep (dLay (rBeg σ r (nI hN) x) r (L hN) x 0).1 r q) μ H1 := hI
              clear hB9 hk9
              obtain ⟨al, hag, hI⟩ : ∃ al9, agree al al9 ∧ Inv D dA lo al9 (kKeep (dLay (rBeg σ r (nI hN) x) r (L hN) x 0).1 r q) μ H1 := ⟨al8, hag, hI⟩
              refine W.widen (k := 3) (n := 14) (Nat.le_of_ble_eq_true rfl) (Nat.le_of_ble_eq_true rfl) ?_
              exact vx_ret (W.iret (v := nI (r + 1)) hx hb hr (fun t ht hW => ⟨⟨nI (r + 1), (kKeep (dLay (rBeg σ r (nI hN) x) r (L hN) x 0).1 r q, al), rfl, ⟨(by unfold cRes; rw [if_pos c_4, if_pos c_11, if_pos c_18, if_pos (show nI r < 60 by rw [← hrc]; exact c_37), hcN, if_pos c_56, if_pos c_76, pN_of hdk.p hdk.q4]), hag⟩, iv_giveA ht hI⟩, hS.F ht⟩) hS.2.2 dX0_reserve_102)
            · refine lv_aload_n hx hb dX0_reserve_79 rfl (lv_at hl 0 rfl) ?_
              refine sx_get (ci := 0) (C := RX0) (T := TX0) (N := 10) (v := .ref (al 7 3)) hx hb hts inX0 hown hK (c0_at hI) rfl 3 (by decide) (hts _ w_1_62) rfl rfl dX0_reserve_80 ?_
              refine lv_iload_n hx hb dX0_reserve_83 rfl (lv_at hl 1 rfl) ?_
              refine lv_iconst (v := 0) hx hb dX0_reserve_84 (by decide) ?_
              refine sx_zast hx hb hK hS (c7_3_at hI) (c7_3_lo hI) 2 rfl (desk_vp c_4) dX0_reserve_85 (fun H locs hq => ?_)
              rw [(show vp_nar .boolean 0 = 0 from rfl)] at hq
              have hI := c7_3_uI (f := d.toNatClampNeg) (v := 0) hI hq
              have hS := hq.2.2.2
              refine lv_aload_n hx hb dX0_reserve_86 rfl (lv_at hl 0 rfl) ?_
              refine sx_get (ci := 0) (C := RX0) (T := TX0) (N := 10) (v := .ref (al 7 4)) hx hb hts inX0 hown hK (c0_at hI) rfl 4 (by decide) (hts _ w_1_63) rfl rfl dX0_reserve_87 ?_
              refine lv_iload_n hx hb dX0_reserve_90 rfl (lv_at hl 1 rfl) ?_
              refine lv_dup2_11 hx hb dX0_reserve_91 rfl rfl ?_
              refine sx_iald hx hb hK (c7_4_at hI) 0 rfl (desk_vp c_4) dX0_reserve_92 ?_
              refine W.eq (g2 := F0 m 93 ls (.int (fI (dLay (rBeg σ r (nI hN) x) r (L hN) x 0).1 7 4 d.toNatClampNeg) :: [.int d, .ref (al 7 4)])) rfl ?_
              refine lv_iconst (v := 1) hx hb dX0_reserve_93 (by decide) ?_
              refine lv_iadd hx hb dX0_reserve_94 ?_
              refine sx_iast hx hb hK hS (c7_4_at hI) (c7_4_lo hI) 0 rfl (desk_vp c_4) dX0_reserve_95 (fun H locs hq => ?_)
              have hI := c7_4_uI (f := d.toNatClampNeg) (v := (fI (dLay (rBeg σ r (nI hN) x) r (L hN) x 0).1 7 4 d.toNatClampNeg) + 1) hI hq
              have hS := hq.2.2.2
              refine lv_iconst (v := (-1)) hx hb dX0_reserve_96 (by decide) ?_
              refine W.widen (k := 3) (n := 14) (Nat.le_of_ble_eq_true rfl) (Nat.le_of_ble_eq_true rfl) ?_
              exact vx_ret (W.iret (v := (-1)) hx hb hr (fun t ht hW => ⟨⟨(-1), (uI (uI (dLay (rBeg σ r (nI hN) x) r (L hN) x 0).1 7 3 d.toNatClampNeg 0) 7 4 d.toNatClampNeg ((fI (dLay (rBeg σ r (nI hN) x) r (L hN) x 0).1 7 4 d.toNatClampNeg) + 1), al), rfl, ⟨(by unfold cRes; rw [if_pos c_4, if_pos c_11, if_pos c_18, if_pos (show nI r < 60 by rw [← hrc]; exact c_37), hcN, if_pos c_56, if_neg c_76]), (fun _ _ _ => rfl)⟩, iv_giveA ht hI⟩, hS.F ht⟩) hS.2.2 dX0_reserve_97)
          · have c_56 := b2i_0.mp c_56
            refine lv_ldc2 (v := (-2)) hx hb hown (hts _ w_2_140) dX0_reserve_59 ?_
            refine lv_aload_n hx hb dX0_reserve_62 rfl (lv_at hl 0 rfl) ?_
            refine lv_iload_n hx hb dX0_reserve_63 rfl (lv_at hl 2 rfl) ?_
            refine vp_callSl (W.runV (As := [.int (nI hN)]) (rest := [.long (-2)]) ⟨hx, hb, hml, hown, hts⟩ (k_mayCoverTogether l D dA sa lo al (dLay (rBeg σ r (nI hN) x) r (L hN) x 0).1 μ hN hh (L hN) hcY) (cwV 1 hts (gdV w_1_142 w_1_144 wp_2 w_1_1 w_1_145) rfl rfl rfl (by decide +kernel) ⟨Nat.le_of_ble_eq_true rfl, Nat.le_of_ble_eq_true rfl⟩) ⟨iv_bl, sx_recv hK (c0_at hI) rfl, fun U hU hW => ⟨rfl, iv_use hI hwd hS hU hW⟩⟩ rfl rfl hl.1 rfl (lv_room (Nat.le_of_ble_eq_true rfl)) dX0_reserve_64 ⟨Nat.le_of_ble_eq_true rfl, Nat.le_of_ble_eq_true rfl⟩) (fun r_64 e_64 => ?_)
            subst e_64
            refine lv_lsub hx hb dX0_reserve_67 ?_
            refine lv_l2i hx hb dX0_reserve_68 rfl ?_
            refine W.widen (k := 3) (n := 14) (Nat.le_of_ble_eq_true rfl) (Nat.le_of_ble_eq_true rfl) ?_
            exact vx_ret (W.iret (v := ((-2) - (lMin (sumMay (dLay (rBeg σ r (nI hN) x) r (L hN) x 0).1 (L hN) 0) 2000000000)).toInt32) hx hb hr (fun t ht hW => ⟨⟨((-2) - (lMin (sumMay (dLay (rBeg σ r (nI hN) x) r (L hN) x 0).1 (L hN) 0) 2000000000)).toInt32, ((dLay (rBeg σ r (nI hN) x) r (L hN) x 0).1, al), rfl, ⟨(by unfold cRes; rw [if_pos c_4, if_pos c_11, if_pos c_18, if_pos (show nI r < 60 by rw [← hrc]; exact c_37), hcN, if_neg c_56]), (fun _ _ _ => rfl)⟩, iv_giveA ht hI⟩, hS.F ht⟩) hS.2.2 dX0_reserve_69)
        · exact vx_throwS (names := xnames) (text := "there are as many reservations as there may be") (sa := sa 101) hx hb hlt hown xISE_fit xn_fit (hts _ w_2_19) (hts _ w_1_8) (wd_s hwd (101, "there are as many reservations as there may be") (List.mem_of_getElem? (i := 3) rfl)) (xISE_hat hts (wd_n hwd)) xISE_ot (wd_u hwd) (wd_v hwd) hS (hl.1.trans hml.symm) dX0_reserve_40 dX0_reserve_43 dX0_reserve_44 dX0_reserve_46 dX0_reserve_49 (fun x h => (hnoh x h).elim) (Nat.le_of_ble_eq_true rfl) (Nat.le_of_ble_eq_true rfl) (Nat.le_of_ble_eq_true rfl) (Nat.le_of_ble_eq_true rfl) hlocks (fun t ha9 hz9 hq9 => ⟨_, rfl, ⟨Or.inr ⟨rfl, (by unfold cRes; rw [if_pos c_4, if_pos c_11, if_pos c_18, if_neg (show ¬ nI r < 60 by rw [← hrc]; exact c_37)])⟩, iv_kept hI hq9⟩, ⟨hz9, fun q h1 h2 => hq9 q h1⟩⟩) (fun z h => by cases h) (Nat.le_of_ble_eq_true rfl) (Nat.le_of_ble_eq_true rfl)
      · have c_18 := bp_0.mp c_18
        exact vx_throwS (names := xnames) (text := "no such desk, holder or debt") (sa := sa 96) hx hb hlt hown xIAE_fit xn_fit (hts _ w_1_191) (hts _ w_1_7) (wd_s hwd (96, "no such desk, holder or debt") (List.mem_of_getElem? (i := 2) rfl)) (xIAE_hat hts (wd_n hwd)) xIAE_ot (wd_u hwd) (wd_v hwd) hS (hl.1.trans hml.symm) dX0_reserve_21 dX0_reserve_24 dX0_reserve_25 dX0_reserve_27 dX0_reserve_30 (fun x h => (hnoh x h).elim) (Nat.le_of_ble_eq_true rfl) (Nat.le_of_ble_eq_true rfl) (Nat.le_of_ble_eq_true rfl) (Nat.le_of_ble_eq_true rfl) hlocks (fun t ha9 hz9 hq9 => ⟨_, rfl, ⟨Or.inl ⟨rfl, (by unfold cRes; rw [if_pos c_4, if_pos c_11, if_neg c_18])⟩, iv_kept hI hq9⟩, ⟨hz9, fun q h1 h2 => hq9 q h1⟩⟩) (fun z h => by cases h) (Nat.le_of_ble_eq_true rfl) (Nat.le_of_ble_eq_true rfl)

set_option maxHeartbeats 4000000 in
set_option maxRecDepth 100000 in
theorem k_beginFor (l : Launch) (D : va_G) (dA : Nat → ClassId) (sa : Nat → Nat) (lo : Nat) (al : Nat → Nat → Nat) (σ μ : CS) (j : Nat) (hj : j < nR σ) (h : Int32) (d : Int64) : Met l yX4_beginFor wsX4_beginFor ({ frames := 0, cells := 0, slots := 0, locals := 0 }) (va_Pc [.ref (al 4 j), .int h, .long d] (ivP D dA sa lo al σ μ)) (va_Qv (fun u => u = rBeg σ j h d) (ivB D dA lo al μ) (fun q => lo ≤ q)) 0 0 (fun q => lo ≤ q) := by
  refine Met.ofW (cc := cX4_beginFor) (maxL := 4) (ret := none) (by decide) rfl ?_
  intro p e s m args below meth c s₁ B hml hv
  obtain ⟨rfl, hI, hwd⟩ := hv
  have hx := B.exec
  have hb := B.bytes
  have hr := B.returns
  have hts : ∀ w ∈ WSall, w.before _ s = true := fun w h => atoms_spec (ws := wsX4_beginFor) B.pre w (List.mem_cons_of_mem _ h)
  have hown : s.vm.findClass RX4 = some m.cls := findClass_of_methodNamed B.named
  have hlocks := B.notSynchronized
  have hK := hwd.1
  have hS : va_S (fun q => lo ≤ q) s.heap s.heap [] := va_S.rf
  have hl := lv_entry ([.ref (al 4 j), .int h, .long d]) (n := 4) (Nat.le_of_ble_eq_true rfl)
  rw [lg_entry_eq]
  generalize (lg_sl ([.ref (al 4 j), .int h, .long d]) ++ List.replicate (4 - (lg_sl ([.ref (al 4 j), .int h, .long d])).length) Slot.unset).toArray = ls at hl ⊢
  have hl : lv_has ls 4 [(0, .ref (al 4 j)), (1, .int h), (2, .long d)] := hl
  refine lv_aload_n hx hb dX4_beginFor_0 rfl (lv_at hl 0 rfl) ?_
  refine lv_iload_n hx hb dX4_beginFor_1 rfl (lv_at hl 1 rfl) ?_
  refine sx_put (ci := 4) (v := .int h) (ty := .int) (C := RX4) (T := TX4) (N := 6) hx hb hts inX4 tyX4 okX4 nmX4 hown hK hS (c4_at hI hj) (c4_lo hI hj) rfl 3 (by decide) (hts _ w_1_37) rfl rfl (by decide +kernel) rfl rfl (Nat.le_of_ble_eq_true rfl) dX4_beginFor_2 (fun H locs hq => ?_)
  have hI := c4_uI (f := 3) (v := h) hI hj rfl hq
  have hS := hq.2.2.2
  refine lv_aload_n hx hb dX4_beginFor_5 rfl (lv_at hl 0 rfl) ?_
  refine lv_lload_n hx hb dX4_beginFor_6 rfl (lv_at hl 2 rfl) ?_
  refine sx_put (ci := 4) (v := .long d) (ty := .long) (C := RX4) (T := TX4) (N := 6) hx hb hts inX4 tyX4 okX4 nmX4 hown hK hS (c4_at hI hj) (c4_lo hI hj) rfl 4 (by decide) (hts _ w_1_39) rfl rfl (by decide +kernel) rfl rfl (Nat.le_of_ble_eq_true rfl) dX4_beginFor_7 (fun H locs hq => ?_)
  have hI := c4_uL (f := 4) (v := d) hI hj rfl hq
  have hS := hq.2.2.2
  refine lv_aload_n hx hb dX4_beginFor_10 rfl (lv_at hl 0 rfl) ?_
  refine lv_iconst (v := 0) hx hb dX4_beginFor_11 (by decide) ?_
  refine sx_put (ci := 4) (v := .int 0) (ty := .int) (C := RX4) (T := TX4) (N := 6) hx hb hts inX4 tyX4 okX4 nmX4 hown hK hS (c4_at hI hj) (c4_lo hI hj) rfl 2 (by decide) (hts _ w_1_35) rfl rfl (by decide +kernel) rfl rfl (Nat.le_of_ble_eq_true rfl) dX4_beginFor_12 (fun H locs hq => ?_)
  have hI := c4_uI (f := 2) (v := 0) hI hj rfl hq
  have hS := hq.2.2.2
  exact W.vret hx hb hr (fun t ht hW => ⟨⟨uI (uL (uI σ 4 j 3 h) 4 j 4 d) 4 j 2 0, rfl, rfl, iv_give ht hI⟩, hS.F ht⟩) hS.2.2 dX4_beginFor_15

set_option maxHeartbeats 4000000 in
set_option maxRecDepth 100000 in
theorem k_addPart (l : Launch) (D : va_G) (dA : Nat → ClassId) (sa : Nat → Nat) (lo : Nat) (al : Nat → Nat → Nat) (σ μ : CS) (j : Nat) (hj : j < nR σ) (g n : Nat) (hg : g < nG σ) (hn : fI σ 4 j 2 = nI n) (hn4 : n ≤ 4) (x : Int64) : Met l yX4_addPart wsX4_addPart ({ frames := 0, cells := 0, slots := 0, locals := 0 }) (va_Pc [.ref (al 4 j), .ref (al 1 g), .long x] (ivP D dA sa lo al σ μ)) (va_Qi (fun r u => if n < 4 then r = 1 ∧ u = rAdd σ j n g x else r = 0 ∧ u = σ) (ivB D dA lo al μ) (fun q => lo ≤ q)) 0 0 (fun q => lo ≤ q) := by
  refine Met.ofW (cc := cX4_addPart) (maxL := 4) (ret := some .boolean) (by decide) rfl ?_
  intro p e s m args below meth c s₁ B hml hv
  obtain ⟨rfl, hI, hwd⟩ := hv
  have hx := B.exec
  have hb := B.bytes
  have hr := B.returns
  have hts : ∀ w ∈ WSall, w.before _ s = true := fun w h => atoms_spec (ws := wsX4_addPart) B.pre w (List.mem_cons_of_mem _ h)
  have hown : s.vm.findClass RX4 = some m.cls := findClass_of_methodNamed B.named
  have hlocks := B.notSynchronized
  have hK := hwd.1
  have hS : va_S (fun q => lo ≤ q) s.heap s.heap [] := va_S.rf
  have hl := lv_entry ([.ref (al 4 j), .ref (al 1 g), .long x]) (n := 4) (Nat.le_of_ble_eq_true rfl)
  rw [lg_entry_eq]
  generalize (lg_sl ([.ref (al 4 j), .ref (al 1 g), .long x]) ++ List.replicate (4 - (lg_sl ([.ref (al 4 j), .ref (al 1 g), .long x])).length) Slot.unset).toArray = ls at hl ⊢
  have hl : lv_has ls 4 [(0, .ref (al 4 j)), (1, .ref (al 1 g)), (2, .long x)] := hl
  refine lv_aload_n hx hb dX4_addPart_0 rfl (lv_at hl 0 rfl) ?_
  refine sx_get (ci := 4) (C := RX4) (T := TX4) (N := 6) (v := .int (fI σ 4 j 2)) hx hb hts inX4 hown hK (c4_at hI hj) rfl 2 (by decide) (hts _ w_1_35) rfl rfl dX4_addPart_1 ?_
  refine lv_iconst (v := 4) hx hb dX4_addPart_4 (by decide) ?_
  refine lv_icmp_lt (tgt := 10) hx hb dX4_addPart_5 (by decide) (fun c_5 => ?_) (fun c_5 => ?_)
  · have h4 : n < 4 := by
      rw [hn] at c_5
      exact (nI_ltI (by omega) (by decide)).mp c_5
    have hcn : (fI σ 4 j 2).toNatClampNeg = n := by rw [hn]; exact nI_clamp (by omega)
    refine lv_aload_n hx hb dX4_addPart_10 rfl (lv_at hl 0 rfl) ?_
    refine sx_get (ci := 4) (C := RX4) (T := TX4) (N := 6) (v := .ref (al 5 j)) hx hb hts inX4 hown hK (c4_at hI hj) rfl 0 (by decide) (hts _ w_1_32) rfl rfl dX4_addPart_11 ?_
    refine lv_aload_n hx hb dX4_addPart_14 rfl (lv_at hl 0 rfl) ?_
    refine sx_get (ci := 4) (C := RX4) (T := TX4) (N := 6) (v := .int (fI σ 4 j 2)) hx hb hts inX4 hown hK (c4_at hI hj) rfl 2 (by decide) (hts _ w_1_35) rfl rfl dX4_addPart_15 ?_
    refine lv_aload_n hx hb dX4_addPart_18 rfl (lv_at hl 1 rfl) ?_
    refine sx_astq (ci := 1) (r := (RX1, TX1, 11)) hx hb hK hS (c5_at hI hj) (c5_lo hI hj) 3 rfl (c1_at hI hg) rfl (by rw [hn]; exact vp_in_nI h4 (by decide)) dX4_addPart_19 (fun H locs hq => ?_)
    rw [hcn] at hq
    have hI := c5_uR (f := n) (v := g) hI hj hq
    have hS := hq.2.2.2
    refine lv_aload_n hx hb dX4_addPart_20 rfl (lv_at hl 0 rfl) ?_
    refine sx_get (ci := 4) (C := RX4) (T := TX4) (N := 6) (v := .ref (al 6 j)) hx hb hts inX4 hown hK (c4_at hI hj) rfl 1 (by decide) (hts _ w_1_33) rfl rfl dX4_addPart_21 ?_
    refine lv_aload_n hx hb dX4_addPart_24 rfl (lv_at hl 0 rfl) ?_
    refine sx_get (ci := 4) (C := RX4) (T := TX4) (N := 6) (v := .int (fI σ 4 j 2)) hx hb hts inX4 hown hK (c4_at hI hj) rfl 2 (by decide) (hts _ w_1_35) rfl rfl dX4_addPart_25 ?_
    refine lv_lload_n hx hb dX4_addPart_28 rfl (lv_at hl 2 rfl) ?_
    refine sx_last hx hb hK hS (c6_at hI hj) (c6_lo hI hj) 1 rfl (by rw [hn]; exact vp_in_nI h4 (by decide)) dX4_addPart_29 (fun H locs hq => ?_)
    rw [hcn] at hq
    have hI := c6_uL (f := n) (v := x) hI hj hq
    have hS := hq.2.2.2
    refine lv_aload_n hx hb dX4_addPart_30 rfl (lv_at hl 0 rfl) ?_
    refine lv_dup hx hb dX4_addPart_31 rfl ?_
    refine sx_get (ci := 4) (C := RX4) (T := TX4) (N := 6) (v := .int (fI σ 4 j 2)) hx hb hts inX4 hown hK (c4_at hI hj) rfl 2 (by decide) (hts _ w_1_35) rfl rfl dX4_addPart_32 ?_
    refine lv_iconst (v := 1) hx hb dX4_addPart_35 (by decide) ?_
    refine lv_iadd hx hb dX4_addPart_36 ?_
    refine sx_put (ci := 4) (v := .int ((fI σ 4 j 2) + 1)) (ty := .int) (C := RX4) (T := TX4) (N := 6) hx hb hts inX4 tyX4 okX4 nmX4 hown hK hS (c4_at hI hj) (c4_lo hI hj) rfl 2 (by decide) (hts _ w_1_35) rfl rfl (by decide +kernel) rfl rfl (Nat.le_of_ble_eq_true rfl) dX4_addPart_37 (fun H locs hq => ?_)
    have hI := c4_uI (f := 2) (v := (fI σ 4 j 2) + 1) hI hj rfl hq
    have hS := hq.2.2.2
    refine lv_iconst (v := 1) hx hb dX4_addPart_40 (by decide) ?_
    exact W.zret (v := 1) hx hb hr rfl (fun t ht hW => ⟨⟨1, uI (uL (uR σ 5 j n (some g)) 6 j n x) 4 j 2 ((fI σ 4 j 2) + 1), rfl, (Eq.mpr (if_pos h4) ⟨rfl, by simp only [rAdd, hn]⟩), iv_give ht hI⟩, hS.F ht⟩) hS.2.2 dX4_addPart_41
  · refine lv_iconst (v := 0) hx hb dX4_addPart_8 (by decide) ?_
    exact W.zret (v := 0) hx hb hr rfl (fun t ht hW => ⟨⟨0, σ, rfl, (by have h4 : ¬ n < 4 := fun h => c_5 (by rw [hn]; exact (nI_ltI (by omega) (by decide)).mpr h); exact Eq.mpr (if_neg h4) ⟨rfl, rfl⟩), iv_give ht hI⟩, hS.F ht⟩) hS.2.2 dX4_addPart_9

set_option maxHeartbeats 4000000 in
set_option maxRecDepth 100000 in
theorem k_hasPart (l : Launch) (D : va_G) (dA : Nat → ClassId) (sa : Nat → Nat) (lo : Nat) (al : Nat → Nat → Nat) (σ μ : CS) (j : Nat) (hj : j < nR σ) (x : Int32) : Met l yX4_hasPart wsX4_hasPart ({ frames := 0, cells := 0, slots := 0, locals := 0 }) (va_Pc [.ref (al 4 j), .int x] (ivP D dA sa lo al σ μ)) (vp_Si (fun r => r = bp (pHas σ j x) inferInstance)) 0 0 (fun _ => False) := by
  refine Met.ofW (cc := cX4_hasPart) (maxL := 2) (ret := some .boolean) (by decide) rfl ?_
  intro p e s m args below meth c s₁ B hml hv
  obtain ⟨rfl, hI, hwd⟩ := hv
  have hx := B.exec
  have hb := B.bytes
  have hr := B.returns
  have hts : ∀ w ∈ WSall, w.before _ s = true := fun w h => atoms_spec (ws := wsX4_hasPart) B.pre w (List.mem_cons_of_mem _ h)
  have hown : s.vm.findClass RX4 = some m.cls := findClass_of_methodNamed B.named
  have hlocks := B.notSynchronized
  have hK := hwd.1
  have hS : va_S (fun q => lo ≤ q) s.heap s.heap [] := va_S.rf
  have hl := lv_entry ([.ref (al 4 j), .int x]) (n := 2) (Nat.le_of_ble_eq_true rfl)
  rw [lg_entry_eq]
  generalize (lg_sl ([.ref (al 4 j), .int x]) ++ List.replicate (2 - (lg_sl ([.ref (al 4 j), .int x])).length) Slot.unset).toArray = ls at hl ⊢
  have hl : lv_has ls 2 [(0, .ref (al 4 j)), (1, .int x)] := hl
  refine lv_iload_n hx hb dX4_hasPart_0 rfl (lv_at hl 1 rfl) ?_
  refine lv_if_lt (tgt := 16) hx hb dX4_hasPart_1 (by decide) (fun c_1 => ?_) (fun c_1 => ?_)
  · refine lv_iconst (v := 0) hx hb dX4_hasPart_16 (by decide) ?_
    exact W.zret (v := 0) hx hb hr rfl (fun t ht hW => ⟨_, rfl, (bp_f (fun h => h.1 c_1)), ht⟩) (fun q h => by cases h) dX4_hasPart_17
  · refine lv_iload_n hx hb dX4_hasPart_4 rfl (lv_at hl 1 rfl) ?_
    refine lv_aload_n hx hb dX4_hasPart_5 rfl (lv_at hl 0 rfl) ?_
    refine sx_get (ci := 4) (C := RX4) (T := TX4) (N := 6) (v := .int (fI σ 4 j 2)) hx hb hts inX4 hown hK (c4_at hI hj) rfl 2 (by decide) (hts _ w_1_35) rfl rfl dX4_hasPart_6 ?_
    refine lv_icmp_ge (tgt := 16) hx hb dX4_hasPart_9 (by decide) (fun c_9 => ?_) (fun c_9 => ?_)
    · refine lv_iconst (v := 0) hx hb dX4_hasPart_16 (by decide) ?_
      exact W.zret (v := 0) hx hb hr rfl (fun t ht hW => ⟨_, rfl, (bp_f (fun h => h.2 c_9)), ht⟩) (fun q h => by cases h) dX4_hasPart_17
    · refine lv_iconst (v := 1) hx hb dX4_hasPart_12 (by decide) ?_
      refine lv_goto (tgt := 17) hx hb dX4_hasPart_13 (by decide) ?_
      exact W.zret (v := 1) hx hb hr rfl (fun t ht hW => ⟨_, rfl, (bp_t ⟨c_1, c_9⟩), ht⟩) (fun q h => by cases h) dX4_hasPart_17

set_option maxHeartbeats 4000000 in
set_option maxRecDepth 100000 in
theorem k_numberOfPart (l : Launch) (D : va_G) (dA : Nat → ClassId) (sa : Nat → Nat) (lo : Nat) (al : Nat → Nat → Nat) (σ μ : CS) (j : Nat) (hj : j < nR σ) (k g : Nat) (hk : k < 4) (hg : fR σ 5 j k = some g) (hgn : g < nG σ) : Met l yX4_numberOfPart wsX4_numberOfPart ({ frames := 0, cells := 0, slots := 0, locals := 0 }) (va_Pc [.ref (al 4 j), .int (nI k)] (ivP D dA sa lo al σ μ)) (vp_Si (fun r => r = fI σ 1 g 0)) 0 0 (fun _ => False) := by
  refine Met.ofW (cc := cX4_numberOfPart) (maxL := 3) (ret := some .int) (by decide) rfl ?_
  intro p e s m args below meth c s₁ B hml hv
  obtain ⟨rfl, hI, hwd⟩ := hv
  have hx := B.exec
  have hb := B.bytes
  have hr := B.returns
  have hts : ∀ w ∈ WSall, w.before _ s = true := fun w h => atoms_spec (ws := wsX4_numberOfPart) B.pre w (List.mem_cons_of_mem _ h)
  have hown : s.vm.findClass RX4 = some m.cls := findClass_of_methodNamed B.named
  have hlocks := B.notSynchronized
  have hK := hwd.1
  have hS : va_S (fun q => lo ≤ q) s.heap s.heap [] := va_S.rf
  have hl := lv_entry ([.ref (al 4 j), .int (nI k)]) (n := 3) (Nat.le_of_ble_eq_true rfl)
  rw [lg_entry_eq]
  generalize (lg_sl ([.ref (al 4 j), .int (nI k)]) ++ List.replicate (3 - (lg_sl ([.ref (al 4 j), .int (nI k)])).length) Slot.unset).toArray = ls at hl ⊢
  have hl : lv_has ls 3 [(0, .ref (al 4 j)), (1, .int (nI k))] := hl
  have hck : (nI k).toNatClampNeg = k := nI_clamp (by omega)
  refine lv_aload_n hx hb dX4_numberOfPart_0 rfl (lv_at hl 0 rfl) ?_
  refine sx_get (ci := 4) (C := RX4) (T := TX4) (N := 6) (v := .ref (al 5 j)) hx hb hts inX4 hown hK (c4_at hI hj) rfl 0 (by decide) (hts _ w_1_32) rfl rfl dX4_numberOfPart_1 ?_
  refine lv_iload_n hx hb dX4_numberOfPart_4 rfl (lv_at hl 1 rfl) ?_
  refine sx_aldq hx hb hK (c5_at hI hj) 3 rfl (vp_in_nI hk (by decide)) dX4_numberOfPart_5 ?_
  rw [hck]
  refine W.eq (g2 := F0 m 6 ls (.ref (al 1 g) :: [])) (congrArg (fun z => F0 m 6 ls (va_rf (Option.map (al 1) z) :: [])) hg) ?_
  refine lv_astore_n (lv' := [(2, .ref (al 1 g)), (0, .ref (al 4 j)), (1, .int (nI k))]) hx hb dX4_numberOfPart_6 rfl hl (by decide) rfl (fun ls hl => ?_)
  refine lv_aload_n hx hb dX4_numberOfPart_7 rfl (lv_at hl 0 rfl) ?_
  refine lv_ifnonnull (tgt := 15) hx hb dX4_numberOfPart_8 (by decide) ?_
  refine lv_aload_n hx hb dX4_numberOfPart_15 rfl (lv_at hl 0 rfl) ?_
  refine sx_getN (ci := 1) (C := RX1) (T := TX1) (N := 11) (v := .int (fI σ 1 g 0)) hx hb hts inX1 hown hK (c1_at hI hgn) rfl 0 (by decide) (va_Nw.use rfl (wd_n hwd (.fieldLinkNest "GuaranteeBook$Reservation" 35 "GuaranteeBook$Guarantee" "number" "I" "GuaranteeBook") (List.mem_of_getElem? (i := 11) rfl))) rfl rfl dX4_numberOfPart_16 ?_
  exact W.iret (v := fI σ 1 g 0) hx hb hr (fun t ht hW => ⟨_, rfl, rfl, ht⟩) (fun q h => by cases h) dX4_numberOfPart_19

set_option maxHeartbeats 4000000 in
set_option maxRecDepth 100000 in
theorem k_covered (l : Launch) (D : va_G) (dA : Nat → ClassId) (sa : Nat → Nat) (lo : Nat) (al : Nat → Nat → Nat) (σ μ : CS) (j : Nat) (hj : j < nR σ) (n : Nat) (hn : fI σ 4 j 2 = nI n) (hn4 : n ≤ 4) : Met l yX4_covered wsX4_covered ({ frames := 0, cells := 0, slots := 0, locals := 0 }) (va_Pc [.ref (al 4 j)] (ivP D dA sa lo al σ μ)) (vp_Sl (fun r => r = sumL (fL σ 6 j) n)) 0 0 (fun _ => False) := by
  refine Met.ofW (cc := cX4_covered) (maxL := 4) (ret := some .long) (by decide) rfl ?_
  intro p e s m args below meth c s₁ B hml hv
  obtain ⟨rfl, hI, hwd⟩ := hv
  have hx := B.exec
  have hb := B.bytes
  have hr := B.returns
  have hts : ∀ w ∈ WSall, w.before _ s = true := fun w h => atoms_spec (ws := wsX4_covered) B.pre w (List.mem_cons_of_mem _ h)
  have hown : s.vm.findClass RX4 = some m.cls := findClass_of_methodNamed B.named
  have hlocks := B.notSynchronized
  have hK := hwd.1
  have hS : va_S (fun q => lo ≤ q) s.heap s.heap [] := va_S.rf
  have hl := lv_entry ([.ref (al 4 j)]) (n := 4) (Nat.le_of_ble_eq_true rfl)
  rw [lg_entry_eq]
  generalize (lg_sl ([.ref (al 4 j)]) ++ List.replicate (4 - (lg_sl ([.ref (al 4 j)])).length) Slot.unset).toArray = ls at hl ⊢
  have hl : lv_has ls 4 [(0, .ref (al 4 j))] := hl
  refine lv_lconst (v := 0) hx hb dX4_covered_0 (by decide) ?_
  refine lv_lstore_n (lv' := [(1, .long 0), (0, .ref (al 4 j))]) hx hb dX4_covered_1 rfl hl (by decide) rfl (fun ls hl => ?_)
  refine lv_iconst (v := 0) hx hb dX4_covered_2 (by decide) ?_
  refine lv_istore_n (lv' := [(3, .int 0), (1, .long 0), (0, .ref (al 4 j))]) hx hb dX4_covered_3 rfl hl (by decide) rfl (fun ls hl => ?_)
  refine w_loopP (hd := 4) (stk := []) (X := Nat) (fun k => n - k) (fun k ls => (k ≤ n) ∧ lv_has ls 4 [(3, .int (nI k)), (1, .long (sumL (fL σ 6 j) k)), (0, .ref (al 4 j))]) (fun k ls hk ih_4 => ?_) 0 ls ⟨Nat.zero_le _, (by have h9 := lv_sub hl [0, 1, 2] rfl; rw [← nI_0] at h9; exact h9)⟩
  obtain ⟨hk, hl⟩ := hk
  have hl : lv_has ls 4 [(3, .int (nI k)), (1, .long (sumL (fL σ 6 j) k)), (0, .ref (al 4 j))] := hl
  refine lv_iload_n hx hb dX4_covered_4 rfl (lv_at hl 0 rfl) ?_
  refine lv_aload_n hx hb dX4_covered_5 rfl (lv_at hl 2 rfl) ?_
  refine sx_get (ci := 4) (C := RX4) (T := TX4) (N := 6) (v := .int (fI σ 4 j 2)) hx hb hts inX4 hown hK (c4_at hI hj) rfl 2 (by decide) (hts _ w_1_35) rfl rfl dX4_covered_6 ?_
  refine lv_icmp_ge (tgt := 27) hx hb dX4_covered_9 (by decide) (fun c_9 => ?_) (fun c_9 => ?_)
  · refine lv_lload_n hx hb dX4_covered_27 rfl (lv_at hl 1 rfl) ?_
    exact W.lret (v := sumL (fL σ 6 j) k) hx hb hr (fun t ht hW => ⟨_, rfl, (by have h := lp_end hn c_9 hk (by omega); subst h; rfl), ht⟩) (fun q h => by cases h) dX4_covered_28
  · have hlt : k < n := lp_lt hn c_9 (by omega)
    have hck : (nI k).toNatClampNeg = k := nI_clamp (by omega)
    refine lv_lload_n hx hb dX4_covered_12 rfl (lv_at hl 1 rfl) ?_
    refine lv_aload_n hx hb dX4_covered_13 rfl (lv_at hl 2 rfl) ?_
    refine sx_get (ci := 4) (C := RX4) (T := TX4) (N := 6) (v := .ref (al 6 j)) hx hb hts inX4 hown hK (c4_at hI hj) rfl 1 (by decide) (hts _ w_1_33) rfl rfl dX4_covered_14 ?_
    refine lv_iload_n hx hb dX4_covered_17 rfl (lv_at hl 0 rfl) ?_
    refine sx_lald hx hb hK (c6_at hI hj) 1 rfl (vp_in_nI (show k < 4 by omega) (by decide)) dX4_covered_18 ?_
    rw [hck]
    refine lv_ladd hx hb dX4_covered_19 ?_
    refine lv_lstore_n (lv' := [(1, .long ((sumL (fL σ 6 j) k) + (fL σ 6 j k))), (3, .int (nI k)), (0, .ref (al 4 j))]) hx hb dX4_covered_20 rfl hl (by decide) rfl (fun ls hl => ?_)
    refine lv_iinc (v := (nI k) + 1) (lv' := [(3, .int ((nI k) + 1)), (1, .long ((sumL (fL σ 6 j) k) + (fL σ 6 j k))), (0, .ref (al 4 j))]) hx hb dX4_covered_21 hl (k := 1) rfl rfl (by decide) rfl (fun ls hl => ?_)
    refine lv_goto (tgt := 4) hx hb dX4_covered_24 (by decide) ?_
    exact ih_4 (k + 1) ls (by omega) ⟨hlt, (by have h9 := lv_sub hl [0, 1, 2] rfl; rw [nI_1] at h9; exact h9)⟩

set_option maxHeartbeats 4000000 in
set_option maxRecDepth 100000 in
theorem k_tell (l : Launch) (D : va_G) (dA : Nat → ClassId) (sa : Nat → Nat) (lo : Nat) (al : Nat → Nat → Nat) (σ μ : CS) (j : Nat) (hj : j < nR σ) (k g : Nat) (hk : k < 4) (hg : fR σ 5 j k = some g) (hgn : g < nG σ) (b a : Int64) : Met l yX4_tellGuarantee wsX4_tellGuarantee ({ frames := 2, cells := 0, slots := 0, locals := 70 }) (va_Pc [.ref (al 4 j), .int (nI k), .long b, .long a] (ivP D dA sa lo al σ μ)) (va_Qv (fun u => u = rTell σ j k b a) (ivB D dA lo al μ) (fun q => lo ≤ q)) 0 0 (fun q => lo ≤ q) := by
  refine Met.ofW (cc := cX4_tellGuarantee) (maxL := 7) (ret := none) (by decide) rfl ?_
  intro p e s m args below meth c s₁ B hml hv
  obtain ⟨rfl, hI, hwd⟩ := hv
  have hx := B.exec
  have hb := B.bytes
  have hr := B.returns
  have hts : ∀ w ∈ WSall, w.before _ s = true := fun w h => atoms_spec (ws := wsX4_tellGuarantee) B.pre w (List.mem_cons_of_mem _ h)
  have hown : s.vm.findClass RX4 = some m.cls := findClass_of_methodNamed B.named
  have hlocks := B.notSynchronized
  have hK := hwd.1
  have hS : va_S (fun q => lo ≤ q) s.heap s.heap [] := va_S.rf
  have hl := lv_entry ([.ref (al 4 j), .int (nI k), .long b, .long a]) (n := 7) (Nat.le_of_ble_eq_true rfl)
  rw [lg_entry_eq]
  generalize (lg_sl ([.ref (al 4 j), .int (nI k), .long b, .long a]) ++ List.replicate (7 - (lg_sl ([.ref (al 4 j), .int (nI k), .long b, .long a])).length) Slot.unset).toArray = ls at hl ⊢
  have hl : lv_has ls 7 [(0, .ref (al 4 j)), (1, .int (nI k)), (2, .long b), (4, .long a)] := hl
  have hck : (nI k).toNatClampNeg = k := nI_clamp (by omega)
  refine lv_aload_n hx hb dX4_tellGuarantee_0 rfl (lv_at hl 0 rfl) ?_
  refine sx_get (ci := 4) (C := RX4) (T := TX4) (N := 6) (v := .ref (al 5 j)) hx hb hts inX4 hown hK (c4_at hI hj) rfl 0 (by decide) (hts _ w_1_32) rfl rfl dX4_tellGuarantee_1 ?_
  refine lv_iload_n hx hb dX4_tellGuarantee_4 rfl (lv_at hl 1 rfl) ?_
  refine sx_aldq hx hb hK (c5_at hI hj) 3 rfl (vp_in_nI hk (by decide)) dX4_tellGuarantee_5 ?_
  rw [hck]
  refine W.eq (g2 := F0 m 6 ls (.ref (al 1 g) :: [])) (congrArg (fun z => F0 m 6 ls (va_rf (Option.map (al 1) z) :: [])) hg) ?_
  refine lv_astore (lv' := [(6, .ref (al 1 g)), (0, .ref (al 4 j)), (1, .int (nI k)), (2, .long b), (4, .long a)]) hx hb dX4_tellGuarantee_6 hl (by decide) rfl (fun ls hl => ?_)
  refine lv_aload hx hb dX4_tellGuarantee_8 (lv_at hl 0 rfl) ?_
  refine lv_ifnull hx hb dX4_tellGuarantee_10 ?_
  refine lv_aload hx hb dX4_tellGuarantee_13 (lv_at hl 0 rfl) ?_
  refine lv_lload_n hx hb dX4_tellGuarantee_15 rfl (lv_at hl 3 rfl) ?_
  refine lv_lload hx hb dX4_tellGuarantee_16 (lv_at hl 4 rfl) ?_
  refine va_callv (va_runV (As := [.long b, .long a]) (rest := []) ⟨hx, hb, hml, hown, hts⟩ (k_changePart l D dA sa lo al σ μ g hgn b a) (cwV 2 hts (gdV w_2_153 w_2_154 w_2_155 w_1_9 w_2_156) rfl rfl rfl (by decide +kernel) ⟨Nat.le_of_ble_eq_true rfl, Nat.le_of_ble_eq_true rfl⟩) ⟨iv_bl, sx_recv hK (c1_at hI hgn) rfl, fun U hU hW => ⟨rfl, iv_use hI hwd hS hU hW⟩⟩ rfl rfl hl.1 rfl (lv_room (Nat.le_of_ble_eq_true rfl)) dX4_tellGuarantee_18 ⟨Nat.le_of_ble_eq_true rfl, Nat.le_of_ble_eq_true rfl⟩) hS (fun q _ h => h) (fun q h => h) (fun u9 T9 H1 locs ht9 hvm9 e_18 hB9 hz9 hk9 hS => ?_)
  have hI := iv_take ht9 hB9
  clear hB9 hk9
  obtain rfl := e_18
  exact W.vret hx hb hr (fun t ht hW => ⟨⟨gChg σ g b a, rfl, (by simp [rTell, hg]), iv_give ht hI⟩, hS.F ht⟩) hS.2.2 dX4_tellGuarantee_21

set_option maxHeartbeats 4000000 in
set_option maxRecDepth 100000 in
theorem k_bindParts (l : Launch) (D : va_G) (dA : Nat → ClassId) (sa : Nat → Nat) (lo : Nat) (al : Nat → Nat → Nat) (σ μ : CS) (j : Nat) (hj : j < nR σ) (n : Nat) (hn : fI σ 4 j 2 = nI n) (hn4 : n ≤ 4) (hp : ∀ k, k < n → ∃ g, fR σ 5 j k = some g ∧ g < nG σ) : Met l yX4_bindParts wsX4_bindParts ({ frames := 3, cells := 0, slots := 0, locals := 120 }) (va_Pc [.ref (al 4 j)] (ivP D dA sa lo al σ μ)) (va_Qv (fun u => u = rBind σ j n) (ivB D dA lo al μ) (fun q => lo ≤ q)) 0 0 (fun q => lo ≤ q) := by
  refine Met.ofW (cc := cX4_bindParts) (maxL := 2) (ret := none) (by decide) rfl ?_
  intro p e s m args below meth c s₁ B hml hv
  obtain ⟨rfl, hI, hwd⟩ := hv
  have hx := B.exec
  have hb := B.bytes
  have hr := B.returns
  have hts : ∀ w ∈ WSall, w.before _ s = true := fun w h => atoms_spec (ws := wsX4_bindParts) B.pre w (List.mem_cons_of_mem _ h)
  have hown : s.vm.findClass RX4 = some m.cls := findClass_of_methodNamed B.named
  have hlocks := B.notSynchronized
  have hK := hwd.1
  have hS : va_S (fun q => lo ≤ q) s.heap s.heap [] := va_S.rf
  have hl := lv_entry ([.ref (al 4 j)]) (n := 2) (Nat.le_of_ble_eq_true rfl)
  rw [lg_entry_eq]
  generalize (lg_sl ([.ref (al 4 j)]) ++ List.replicate (2 - (lg_sl ([.ref (al 4 j)])).length) Slot.unset).toArray = ls at hl ⊢
  have hl : lv_has ls 2 [(0, .ref (al 4 j))] := hl
  refine lv_iconst (v := 0) hx hb dX4_bindParts_0 (by decide) ?_
  refine lv_istore_n (lv' := [(1, .int 0), (0, .ref (al 4 j))]) hx hb dX4_bindParts_1 rfl hl (by decide) rfl (fun ls hl => ?_)
  refine w_loop (hd := 2) (stk := []) (X := Nat) (fun k => n - k) (fun k ls H locs => Inv D dA lo al (rBind σ j k) μ H ∧ va_S (fun q => lo ≤ q) s.heap H locs ∧ (k ≤ n) ∧ lv_has ls 2 [(1, .int (nI k)), (0, .ref (al 4 j))]) (fun k ls H locs hk ih_2 => ?_) 0 ls _ _ ⟨hI, hS, Nat.zero_le _, (by have h9 := lv_sub hl [0, 1] rfl; rw [← nI_0] at h9; exact h9)⟩
  obtain ⟨hI, hS, hk, hl⟩ := hk
  have hl : lv_has ls 2 [(1, .int (nI k)), (0, .ref (al 4 j))] := hl
  have hjk : j < nR (rBind σ j k) := by rw [rBind_N]; exact hj
  have hnk : fI (rBind σ j k) 4 j 2 = nI n := by rw [rBind_I (by decide)]; exact hn
  refine lv_iload_n hx hb dX4_bindParts_2 rfl (lv_at hl 0 rfl) ?_
  refine lv_aload_n hx hb dX4_bindParts_3 rfl (lv_at hl 1 rfl) ?_
  refine sx_get (ci := 4) (C := RX4) (T := TX4) (N := 6) (v := .int (fI (rBind σ j k) 4 j 2)) hx hb hts inX4 hown hK (c4_at hI hjk) rfl 2 (by decide) (hts _ w_1_35) rfl rfl dX4_bindParts_4 ?_
  refine lv_icmp_ge (tgt := 28) hx hb dX4_bindParts_7 (by decide) (fun c_7 => ?_) (fun c_7 => ?_)
  · exact W.vret hx hb hr (fun t ht hW => ⟨⟨rBind σ j k, rfl, (by have h := lp_end hnk c_7 hk (by omega); subst h; rfl), iv_give ht hI⟩, hS.F ht⟩) hS.2.2 dX4_bindParts_28
  · have hlt : k < n := lp_lt hnk c_7 (by omega)
    have hck : (nI k).toNatClampNeg = k := nI_clamp (by omega)
    obtain ⟨g, hg, hgn⟩ := hp k hlt
    have hg : fR (rBind σ j k) 5 j k = some g := by rw [rBind_R]; exact hg
    have hgn : g < nG (rBind σ j k) := by rw [rBind_G]; exact hgn
    refine lv_aload_n hx hb dX4_bindParts_10 rfl (lv_at hl 1 rfl) ?_
    refine lv_iload_n hx hb dX4_bindParts_11 rfl (lv_at hl 0 rfl) ?_
    refine lv_lconst (v := 0) hx hb dX4_bindParts_12 (by decide) ?_
    refine lv_aload_n hx hb dX4_bindParts_13 rfl (lv_at hl 1 rfl) ?_
    refine sx_get (ci := 4) (C := RX4) (T := TX4) (N := 6) (v := .ref (al 6 j)) hx hb hts inX4 hown hK (c4_at hI hjk) rfl 1 (by decide) (hts _ w_1_33) rfl rfl dX4_bindParts_14 ?_
    refine lv_iload_n hx hb dX4_bindParts_17 rfl (lv_at hl 0 rfl) ?_
    refine sx_lald hx hb hK (c6_at hI hjk) 1 rfl (vp_in_nI (show k < 4 by omega) (by decide)) dX4_bindParts_18 ?_
    rw [hck]
    refine va_callv (va_runV (As := [.int (nI k), .long 0, .long (fL (rBind σ j k) 6 j k)]) (rest := []) ⟨hx, hb, hml, hown, hts⟩ (k_tell l D dA sa lo al (rBind σ j k) μ j hjk k _ (by omega) hg hgn 0 (fL (rBind σ j k) 6 j k)) (cwV 3 hts (gdV w_2_149 w_2_151 wp_7 w_1_2 w_2_152) rfl rfl rfl (by decide +kernel) ⟨Nat.le_of_ble_eq_true rfl, Nat.le_of_ble_eq_true rfl⟩) ⟨iv_bl, sx_recv hK (c4_at hI hjk) rfl, fun U hU hW => ⟨rfl, iv_use hI hwd hS hU hW⟩⟩ rfl rfl hl.1 rfl (lv_room (Nat.le_of_ble_eq_true rfl)) dX4_bindParts_19 ⟨Nat.le_of_ble_eq_true rfl, Nat.le_of_ble_eq_true rfl⟩) hS (fun q _ h => h) (fun q h => h) (fun u9 T9 H1 locs ht9 hvm9 e_19 hB9 hz9 hk9 hS => ?_)
    have hI := iv_take ht9 hB9
    clear hB9 hk9
    obtain rfl := e_19
    refine lv_iinc (v := (nI k) + 1) (lv' := [(1, .int ((nI k) + 1)), (0, .ref (al 4 j))]) hx hb dX4_bindParts_22 hl (k := 0) rfl rfl (by decide) rfl (fun ls hl => ?_)
    refine lv_goto (tgt := 2) hx hb dX4_bindParts_25 (by decide) ?_
    exact ih_2 (k + 1) ls _ _ (by omega) ⟨hI, hS, hlt, (by have h9 := lv_sub hl [0, 1] rfl; rw [nI_1] at h9; exact h9)⟩

set_option maxHeartbeats 4000000 in
set_option maxRecDepth 100000 in
theorem k_dropParts (l : Launch) (D : va_G) (dA : Nat → ClassId) (sa : Nat → Nat) (lo : Nat) (al : Nat → Nat → Nat) (σ μ : CS) (j : Nat) (hj : j < nR σ) (n : Nat) (hn : fI σ 4 j 2 = nI n) (hn4 : n ≤ 4) (hp : ∀ k, k < n → ∃ g, fR σ 5 j k = some g ∧ g < nG σ) : Met l yX4_dropParts wsX4_dropParts ({ frames := 3, cells := 0, slots := 0, locals := 120 }) (va_Pc [.ref (al 4 j)] (ivP D dA sa lo al σ μ)) (va_Qv (fun u => u = uI (rDrop σ j n) 4 j 2 0) (ivB D dA lo al μ) (fun q => lo ≤ q)) 0 0 (fun q => lo ≤ q) := by
  refine Met.ofW (cc := cX4_dropParts) (maxL := 2) (ret := none) (by decide) rfl ?_
  intro p e s m args below meth c s₁ B hml hv
  obtain ⟨rfl, hI, hwd⟩ := hv
  have hx := B.exec
  have hb := B.bytes
  have hr := B.returns
  have hts : ∀ w ∈ WSall, w.before _ s = true := fun w h => atoms_spec (ws := wsX4_dropParts) B.pre w (List.mem_cons_of_mem _ h)
  have hown : s.vm.findClass RX4 = some m.cls := findClass_of_methodNamed B.named
  have hlocks := B.notSynchronized
  have hK := hwd.1
  have hS : va_S (fun q => lo ≤ q) s.heap s.heap [] := va_S.rf
  have hl := lv_entry ([.ref (al 4 j)]) (n := 2) (Nat.le_of_ble_eq_true rfl)
  rw [lg_entry_eq]
  generalize (lg_sl ([.ref (al 4 j)]) ++ List.replicate (2 - (lg_sl ([.ref (al 4 j)])).length) Slot.unset).toArray = ls at hl ⊢
  have hl : lv_has ls 2 [(0, .ref (al 4 j))] := hl
  refine lv_iconst (v := 0) hx hb dX4_dropParts_0 (by decide) ?_
  refine lv_istore_n (lv' := [(1, .int 0), (0, .ref (al 4 j))]) hx hb dX4_dropParts_1 rfl hl (by decide) rfl (fun ls hl => ?_)
  refine w_loop (hd := 2) (stk := []) (X := Nat) (fun k => n - k) (fun k ls H locs => Inv D dA lo al (rDrop σ j k) μ H ∧ va_S (fun q => lo ≤ q) s.heap H locs ∧ (k ≤ n) ∧ lv_has ls 2 [(1, .int (nI k)), (0, .ref (al 4 j))]) (fun k ls H locs hk ih_2 => ?_) 0 ls _ _ ⟨hI, hS, Nat.zero_le _, (by have h9 := lv_sub hl [0, 1] rfl; rw [← nI_0] at h9; exact h9)⟩
  obtain ⟨hI, hS, hk, hl⟩ := hk
  have hl : lv_has ls 2 [(1, .int (nI k)), (0, .ref (al 4 j))] := hl
  have hjk : j < nR (rDrop σ j k) := by rw [rDrop_N]; exact hj
  have hnk : fI (rDrop σ j k) 4 j 2 = nI n := by rw [rDrop_I (by decide)]; exact hn
  refine lv_iload_n hx hb dX4_dropParts_2 rfl (lv_at hl 0 rfl) ?_
  refine lv_aload_n hx hb dX4_dropParts_3 rfl (lv_at hl 1 rfl) ?_
  refine sx_get (ci := 4) (C := RX4) (T := TX4) (N := 6) (v := .int (fI (rDrop σ j k) 4 j 2)) hx hb hts inX4 hown hK (c4_at hI hjk) rfl 2 (by decide) (hts _ w_1_35) rfl rfl dX4_dropParts_4 ?_
  refine lv_icmp_ge (tgt := 28) hx hb dX4_dropParts_7 (by decide) (fun c_7 => ?_) (fun c_7 => ?_)
  · refine lv_aload_n hx hb dX4_dropParts_28 rfl (lv_at hl 1 rfl) ?_
    refine lv_iconst (v := 0) hx hb dX4_dropParts_29 (by decide) ?_
    refine sx_put (ci := 4) (v := .int 0) (ty := .int) (C := RX4) (T := TX4) (N := 6) hx hb hts inX4 tyX4 okX4 nmX4 hown hK hS (c4_at hI hjk) (c4_lo hI hjk) rfl 2 (by decide) (hts _ w_1_35) rfl rfl (by decide +kernel) rfl rfl (Nat.le_of_ble_eq_true rfl) dX4_dropParts_30 (fun H locs hq => ?_)
    have hI := c4_uI (f := 2) (v := 0) hI hjk rfl hq
    have hS := hq.2.2.2
    exact W.vret hx hb hr (fun t ht hW => ⟨⟨uI (rDrop σ j k) 4 j 2 0, rfl, (by have h := lp_end hnk c_7 hk (by omega); subst h; rfl), iv_give ht hI⟩, hS.F ht⟩) hS.2.2 dX4_dropParts_33
  · have hlt : k < n := lp_lt hnk c_7 (by omega)
    have hck : (nI k).toNatClampNeg = k := nI_clamp (by omega)
    obtain ⟨g, hg, hgn⟩ := hp k hlt
    have hg : fR (rDrop σ j k) 5 j k = some g := by rw [rDrop_R]; exact hg
    have hgn : g < nG (rDrop σ j k) := by rw [rDrop_G]; exact hgn
    refine lv_aload_n hx hb dX4_dropParts_10 rfl (lv_at hl 1 rfl) ?_
    refine lv_iload_n hx hb dX4_dropParts_11 rfl (lv_at hl 0 rfl) ?_
    refine lv_aload_n hx hb dX4_dropParts_12 rfl (lv_at hl 1 rfl) ?_
    refine sx_get (ci := 4) (C := RX4) (T := TX4) (N := 6) (v := .ref (al 6 j)) hx hb hts inX4 hown hK (c4_at hI hjk) rfl 1 (by decide) (hts _ w_1_33) rfl rfl dX4_dropParts_13 ?_
    refine lv_iload_n hx hb dX4_dropParts_16 rfl (lv_at hl 0 rfl) ?_
    refine sx_lald hx hb hK (c6_at hI hjk) 1 rfl (vp_in_nI (show k < 4 by omega) (by decide)) dX4_dropParts_17 ?_
    rw [hck]
    refine lv_lconst (v := 0) hx hb dX4_dropParts_18 (by decide) ?_
    refine va_callv (va_runV (As := [.int (nI k), .long (fL (rDrop σ j k) 6 j k), .long 0]) (rest := []) ⟨hx, hb, hml, hown, hts⟩ (k_tell l D dA sa lo al (rDrop σ j k) μ j hjk k _ (by omega) hg hgn (fL (rDrop σ j k) 6 j k) 0) (cwV 3 hts (gdV w_2_149 w_2_151 wp_7 w_1_2 w_2_152) rfl rfl rfl (by decide +kernel) ⟨Nat.le_of_ble_eq_true rfl, Nat.le_of_ble_eq_true rfl⟩) ⟨iv_bl, sx_recv hK (c4_at hI hjk) rfl, fun U hU hW => ⟨rfl, iv_use hI hwd hS hU hW⟩⟩ rfl rfl hl.1 rfl (lv_room (Nat.le_of_ble_eq_true rfl)) dX4_dropParts_19 ⟨Nat.le_of_ble_eq_true rfl, Nat.le_of_ble_eq_true rfl⟩) hS (fun q _ h => h) (fun q h => h) (fun u9 T9 H1 locs ht9 hvm9 e_19 hB9 hz9 hk9 hS => ?_)
    have hI := iv_take ht9 hB9
    clear hB9 hk9
    obtain rfl := e_19
    refine lv_iinc (v := (nI k) + 1) (lv' := [(1, .int ((nI k) + 1)), (0, .ref (al 4 j))]) hx hb dX4_dropParts_22 hl (k := 0) rfl rfl (by decide) rfl (fun ls hl => ?_)
    refine lv_goto (tgt := 2) hx hb dX4_dropParts_25 (by decide) ?_
    exact ih_2 (k + 1) ls _ _ (by omega) ⟨hI, hS, hlt, (by have h9 := lv_sub hl [0, 1] rfl; rw [nI_1] at h9; exact h9)⟩

set_option maxHeartbeats 4000000 in
set_option maxRecDepth 100000 in
theorem k_take (l : Launch) (D : va_G) (dA : Nat → ClassId) (sa : Nat → Nat) (lo : Nat) (al : Nat → Nat → Nat) (σ μ : CS) (j : Nat) (hj : j < nR σ) (n : Nat) (hn : fI σ 4 j 2 = nI n) (hn4 : n ≤ 4) (hp : ∀ k, k < n → ∃ g, fR σ 5 j k = some g ∧ g < nG σ) (x : Int64) (day : Int32) : Met l yX4_takeFromAmounts wsX4_takeFromAmounts ({ frames := 3, cells := 0, slots := 0, locals := 100 }) (va_Pc [.ref (al 4 j), .long x, .int day] (ivP D dA sa lo al σ μ)) (va_Ql (fun r u => r = (rTk σ j day x n).2.2 ∧ u = (rTk σ j day x n).1) (ivB D dA lo al μ) (fun q => lo ≤ q)) 0 0 (fun q => lo ≤ q) := by
  refine Met.ofW (cc := cX4_takeFromAmounts) (maxL := 12) (ret := some .long) (by decide) rfl ?_
  intro p e s m args below meth c s₁ B hml hv
  obtain ⟨rfl, hI, hwd⟩ := hv
  have hx := B.exec
  have hb := B.bytes
  have hr := B.returns
  have hts : ∀ w ∈ WSall, w.before _ s = true := fun w h => atoms_spec (ws := wsX4_takeFromAmounts) B.pre w (List.mem_cons_of_mem _ h)
  have hown : s.vm.findClass RX4 = some m.cls := findClass_of_methodNamed B.named
  have hlocks := B.notSynchronized
  have hK := hwd.1
  have hS : va_S (fun q => lo ≤ q) s.heap s.heap [] := va_S.rf
  have hl := lv_entry ([.ref (al 4 j), .long x, .int day]) (n := 12) (Nat.le_of_ble_eq_true rfl)
  rw [lg_entry_eq]
  generalize (lg_sl ([.ref (al 4 j), .long x, .int day]) ++ List.replicate (12 - (lg_sl ([.ref (al 4 j), .long x, .int day])).length) Slot.unset).toArray = ls at hl ⊢
  have hl : lv_has ls 12 [(0, .ref (al 4 j)), (1, .long x), (3, .int day)] := hl
  refine lv_lload_n hx hb dX4_takeFromAmounts_0 rfl (lv_at hl 1 rfl) ?_
  refine lv_lstore (lv' := [(4, .long x), (0, .ref (al 4 j)), (1, .long x), (3, .int day)]) hx hb dX4_takeFromAmounts_1 hl (by decide) rfl (fun ls hl => ?_)
  refine lv_lconst (v := 0) hx hb dX4_takeFromAmounts_3 (by decide) ?_
  refine lv_lstore (lv' := [(6, .long 0), (4, .long x), (0, .ref (al 4 j)), (1, .long x), (3, .int day)]) hx hb dX4_takeFromAmounts_4 hl (by decide) rfl (fun ls hl => ?_)
  refine lv_iconst (v := 0) hx hb dX4_takeFromAmounts_6 (by decide) ?_
  refine lv_istore (lv' := [(8, .int 0), (6, .long 0), (4, .long x), (0, .ref (al 4 j)), (1, .long x), (3, .int day)]) hx hb dX4_takeFromAmounts_7 hl (by decide) rfl (fun ls hl => ?_)
  refine w_loop (hd := 9) (stk := []) (X := Nat) (fun k => n - k) (fun k ls H locs => Inv D dA lo al ((rTk σ j day x k).1) μ H ∧ va_S (fun q => lo ≤ q) s.heap H locs ∧ (k ≤ n) ∧ lv_has ls 12 [(8, .int (nI k)), (6, .long (rTk σ j day x k).2.2), (4, .long (rTk σ j day x k).2.1), (3, .int day), (0, .ref (al 4 j))]) (fun k ls H locs hk ih_9 => ?_) 0 ls _ _ ⟨hI, hS, Nat.zero_le _, (by have h9 := lv_sub hl [0, 1, 2, 5, 3] rfl; rw [← nI_0] at h9; exact h9)⟩
  obtain ⟨hI, hS, hk, hl⟩ := hk
  have hl : lv_has ls 12 [(8, .int (nI k)), (6, .long (rTk σ j day x k).2.2), (4, .long (rTk σ j day x k).2.1), (3, .int day), (0, .ref (al 4 j))] := hl
  have hjk : j < nR (rTk σ j day x k).1 := by rw [rTk_N]; exact hj
  have hnk : fI (rTk σ j day x k).1 4 j 2 = nI n := by rw [rTk_I (by decide) (by decide)]; exact hn
  refine lv_iload hx hb dX4_takeFromAmounts_9 (lv_at hl 0 rfl) ?_
  refine lv_aload_n hx hb dX4_takeFromAmounts_11 rfl (lv_at hl 4 rfl) ?_
  refine sx_get (ci := 4) (C := RX4) (T := TX4) (N := 6) (v := .int (fI (rTk σ j day x k).1 4 j 2)) hx hb hts inX4 hown hK (c4_at hI hjk) rfl 2 (by decide) (hts _ w_1_35) rfl rfl dX4_takeFromAmounts_12 ?_
  refine lv_icmp_ge (tgt := 72) hx hb dX4_takeFromAmounts_15 (by decide) (fun c_15 => ?_) (fun c_15 => ?_)
  · refine lv_lload hx hb dX4_takeFromAmounts_72 (lv_at hl 1 rfl) ?_
    exact W.lret (v := (rTk σ j day x k).2.2) hx hb hr (fun t ht hW => ⟨⟨(rTk σ j day x k).2.2, (rTk σ j day x k).1, rfl, (by have h := lp_end hnk c_15 hk (by omega); subst h; exact ⟨rfl, rfl⟩), iv_give ht hI⟩, hS.F ht⟩) hS.2.2 dX4_takeFromAmounts_74
  · have hlt : k < n := lp_lt hnk c_15 (by omega)
    have hck : (nI k).toNatClampNeg = k := nI_clamp (by omega)
    obtain ⟨g, hg, hgn⟩ := hp k hlt
    have hg : fR (rTk σ j day x k).1 5 j k = some g := by rw [rTk_R]; exact hg
    have hgn : g < nG (rTk σ j day x k).1 := by rw [rTk_G]; exact hgn
    have htk := rTk_s hg
    have hl1 : (rTk σ j day x k).2.1 - lMin (rTk σ j day x k).2.1 (fL (rTk σ j day x k).1 6 j k) = (rTk σ j day x (k + 1)).2.1 := by rw [htk]
    have hl2 : (rTk σ j day x k).2.2 + gLost (rTk σ j day x k).1 g (lMin (rTk σ j day x k).2.1 (fL (rTk σ j day x k).1 6 j k)) = (rTk σ j day x (k + 1)).2.2 := by rw [htk]
    refine lv_aload_n hx hb dX4_takeFromAmounts_18 rfl (lv_at hl 4 rfl) ?_
    refine sx_get (ci := 4) (C := RX4) (T := TX4) (N := 6) (v := .ref (al 5 j)) hx hb hts inX4 hown hK (c4_at hI hjk) rfl 0 (by decide) (hts _ w_1_32) rfl rfl dX4_takeFromAmounts_19 ?_
    refine lv_iload hx hb dX4_takeFromAmounts_22 (lv_at hl 0 rfl) ?_
    refine sx_aldq hx hb hK (c5_at hI hjk) 3 rfl (vp_in_nI (show k < 4 by omega) (by decide)) dX4_takeFromAmounts_24 ?_
    rw [hck]
    refine W.eq (g2 := F0 m 25 ls (.ref (al 1 g) :: [])) (congrArg (fun z => F0 m 25 ls (va_rf (Option.map (al 1) z) :: [])) hg) ?_
    refine lv_astore (lv' := [(9, .ref (al 1 g)), (8, .int (nI k)), (6, .long (rTk σ j day x k).2.2), (4, .long (rTk σ j day x k).2.1), (3, .int day), (0, .ref (al 4 j))]) hx hb dX4_takeFromAmounts_25 hl (by decide) rfl (fun ls hl => ?_)
    refine lv_lload hx hb dX4_takeFromAmounts_27 (lv_at hl 3 rfl) ?_
    refine lv_aload_n hx hb dX4_takeFromAmounts_29 rfl (lv_at hl 5 rfl) ?_
    refine sx_get (ci := 4) (C := RX4) (T := TX4) (N := 6) (v := .ref (al 6 j)) hx hb hts inX4 hown hK (c4_at hI hjk) rfl 1 (by decide) (hts _ w_1_33) rfl rfl dX4_takeFromAmounts_30 ?_
    refine lv_iload hx hb dX4_takeFromAmounts_33 (lv_at hl 1 rfl) ?_
    refine sx_lald hx hb hK (c6_at hI hjk) 1 rfl (vp_in_nI (show k < 4 by omega) (by decide)) dX4_takeFromAmounts_35 ?_
    rw [hck]
    refine va_mmin_long hx hb (hml.trans hl.1.symm) hown (hts _ w_2_197) (hts _ w_1_164) (hts _ w_1_12) (hts _ wm_min_long) (Nat.le_of_ble_eq_true rfl) (Nat.le_of_ble_eq_true rfl) (Nat.le_of_ble_eq_true rfl) (Nat.le_of_ble_eq_true rfl) dX4_takeFromAmounts_36 ?_
    refine W.eq (g2 := F0 m 39 ls (.long (lMin (rTk σ j day x k).2.1 (fL (rTk σ j day x k).1 6 j k)) :: [])) rfl ?_
    refine lv_lstore (lv' := [(10, .long (lMin (rTk σ j day x k).2.1 (fL (rTk σ j day x k).1 6 j k))), (9, .ref (al 1 g)), (8, .int (nI k)), (6, .long (rTk σ j day x k).2.2), (4, .long (rTk σ j day x k).2.1), (3, .int day), (0, .ref (al 4 j))]) hx hb dX4_takeFromAmounts_39 hl (by decide) rfl (fun ls hl => ?_)
    refine lv_lload hx hb dX4_takeFromAmounts_41 (lv_at hl 4 rfl) ?_
    refine lv_lload hx hb dX4_takeFromAmounts_43 (lv_at hl 0 rfl) ?_
    refine lv_lsub hx hb dX4_takeFromAmounts_45 ?_
    refine lv_lstore (lv' := [(4, .long ((rTk σ j day x k).2.1 - (lMin (rTk σ j day x k).2.1 (fL (rTk σ j day x k).1 6 j k)))), (10, .long (lMin (rTk σ j day x k).2.1 (fL (rTk σ j day x k).1 6 j k))), (9, .ref (al 1 g)), (8, .int (nI k)), (6, .long (rTk σ j day x k).2.2), (3, .int day), (0, .ref (al 4 j))]) hx hb dX4_takeFromAmounts_46 hl (by decide) rfl (fun ls hl => ?_)
    refine lv_aload hx hb dX4_takeFromAmounts_48 (lv_at hl 2 rfl) ?_
    refine lv_ifnull hx hb dX4_takeFromAmounts_50 ?_
    refine lv_lload hx hb dX4_takeFromAmounts_53 (lv_at hl 4 rfl) ?_
    refine lv_aload hx hb dX4_takeFromAmounts_55 (lv_at hl 2 rfl) ?_
    refine lv_lload hx hb dX4_takeFromAmounts_57 (lv_at hl 1 rfl) ?_
    refine lv_iload_n hx hb dX4_takeFromAmounts_59 rfl (lv_at hl 5 rfl) ?_
    refine va_calll (va_runV (As := [.long (lMin (rTk σ j day x k).2.1 (fL (rTk σ j day x k).1 6 j k)), .int day]) (rest := [.long (rTk σ j day x k).2.2]) ⟨hx, hb, hml, hown, hts⟩ (k_loseUpTo l D dA sa lo al (rTk σ j day x k).1 μ g hgn (lMin (rTk σ j day x k).2.1 (fL (rTk σ j day x k).1 6 j k)) day) (cwV 2 hts (gdV w_2_209 w_2_210 w_2_211 w_1_9 w_2_212) rfl rfl rfl (by decide +kernel) ⟨Nat.le_of_ble_eq_true rfl, Nat.le_of_ble_eq_true rfl⟩) ⟨iv_bl, sx_recv hK (c1_at hI hgn) rfl, fun U hU hW => ⟨rfl, iv_use hI hwd hS hU hW⟩⟩ rfl rfl hl.1 rfl (lv_room (Nat.le_of_ble_eq_true rfl)) dX4_takeFromAmounts_60 ⟨Nat.le_of_ble_eq_true rfl, Nat.le_of_ble_eq_true rfl⟩) hS (fun q _ h => h) (fun q h => h) (fun r_60 u9 T9 H1 locs ht9 hvm9 e_60 hB9 hz9 hk9 hS => ?_)
    have hI := iv_take ht9 hB9
    clear hB9 hk9
    obtain ⟨rfl, rfl⟩ := e_60
    refine lv_ladd hx hb dX4_takeFromAmounts_63 ?_
    refine lv_lstore (lv' := [(6, .long ((rTk σ j day x k).2.2 + (gLost (rTk σ j day x k).1 g (lMin (rTk σ j day x k).2.1 (fL (rTk σ j day x k).1 6 j k))))), (4, .long ((rTk σ j day x k).2.1 - (lMin (rTk σ j day x k).2.1 (fL (rTk σ j day x k).1 6 j k)))), (10, .long (lMin (rTk σ j day x k).2.1 (fL (rTk σ j day x k).1 6 j k))), (9, .ref (al 1 g)), (8, .int (nI k)), (3, .int day), (0, .ref (al 4 j))]) hx hb dX4_takeFromAmounts_64 hl (by decide) rfl (fun ls hl => ?_)
    refine lv_iinc (v := (nI k) + 1) (lv' := [(8, .int ((nI k) + 1)), (6, .long ((rTk σ j day x k).2.2 + (gLost (rTk σ j day x k).1 g (lMin (rTk σ j day x k).2.1 (fL (rTk σ j day x k).1 6 j k))))), (4, .long ((rTk σ j day x k).2.1 - (lMin (rTk σ j day x k).2.1 (fL (rTk σ j day x k).1 6 j k)))), (10, .long (lMin (rTk σ j day x k).2.1 (fL (rTk σ j day x k).1 6 j k))), (9, .ref (al 1 g)), (3, .int day), (0, .ref (al 4 j))]) hx hb dX4_takeFromAmounts_66 hl (k := 4) rfl rfl (by decide) rfl (fun ls hl => ?_)
    refine lv_goto (tgt := 9) hx hb dX4_takeFromAmounts_69 (by decide) ?_
    exact ih_9 (k + 1) ls _ _ (by omega) ⟨(by rw [htk]; exact hI), hS, hlt, (by have h9 := lv_sub hl [0, 1, 2, 5, 6] rfl; rw [nI_1, hl1, hl2] at h9; exact h9)⟩

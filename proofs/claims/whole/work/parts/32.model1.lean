set_option maxHeartbeats 4000000 in
set_option maxRecDepth 100000 in
theorem m_thrown (l : Launch) (D : va_G) (dA : Nat → ClassId) (sa : Nat → Nat) (lo : Nat) (al : Nat → Nat → Nat) (σ μ : CS)  : Met l yX5_thrown wsX5_thrown ({ frames := 0, cells := 0, slots := 0, locals := 0 }) (va_Pc [.ref (al 8 0)] (ivP D dA sa lo al σ μ)) (vp_Si (fun z9 => z9 = fI μ 8 0 0)) 0 0 (fun _ => False) := by
  refine Met.ofW (cc := cX5_thrown) (maxL := 1) (ret := some .int) (by decide) rfl ?_
  intro p e s m args below meth c s₁ B hml hv
  obtain ⟨rfl, hI, hwd⟩ := hv
  have hx := B.exec
  have hb := B.bytes
  have hr := B.returns
  have hts : ∀ w ∈ WSall, w.before _ s = true := fun w h => atoms_spec (ws := wsX5_thrown) B.pre w (List.mem_cons_of_mem _ h)
  have hown : s.vm.findClass RX5 = some m.cls := findClass_of_methodNamed B.named
  have hlocks := B.notSynchronized
  have hK := hwd.1
  have hS : va_S (fun q => lo ≤ q) s.heap s.heap [] := va_S.rf
  have hl := lv_entry ([.ref (al 8 0)]) (n := 1) (Nat.le_of_ble_eq_true rfl)
  rw [lg_entry_eq]
  generalize (lg_sl ([.ref (al 8 0)]) ++ List.replicate (1 - (lg_sl ([.ref (al 8 0)])).length) Slot.unset).toArray = ls at hl ⊢
  have hl : lv_has ls 1 [(0, .ref (al 8 0))] := hl
  refine lv_aload_n hx hb dX5_thrown_0 rfl (lv_at hl 0 rfl) ?_
  refine sx_get (ci := 5) (C := RX5) (T := TX5) (N := 24) (v := .int (fI μ 8 0 0)) hx hb hts inX5 hown hK (c8_at hI) rfl 0 (by decide) (hts _ w_3_36) rfl rfl dX5_thrown_1 ?_
  exact W.iret (v := fI μ 8 0 0) hx hb hr (fun t ht hW => ⟨_, rfl, rfl, ht⟩) (fun q h => by cases h) dX5_thrown_4

set_option maxHeartbeats 4000000 in
set_option maxRecDepth 100000 in
theorem m_in (l : Launch) (D : va_G) (dA : Nat → ClassId) (sa : Nat → Nat) (lo : Nat) (al : Nat → Nat → Nat) (σ μ : CS) (x a b : Int64) : Met l yX5_in wsX5_in ({ frames := 0, cells := 0, slots := 0, locals := 0 }) (va_Pc [.long x, .long a, .long b] (ivP D dA sa lo al σ μ)) (vp_Si (fun z9 => z9 = bp (pIn x a b) inferInstance)) 0 0 (fun _ => False) := by
  refine Met.ofW (cc := cX5_in) (maxL := 6) (ret := some .boolean) (by decide) rfl ?_
  intro p e s m args below meth c s₁ B hml hv
  obtain ⟨rfl, hI, hwd⟩ := hv
  have hx := B.exec
  have hb := B.bytes
  have hr := B.returns
  have hts : ∀ w ∈ WSall, w.before _ s = true := fun w h => atoms_spec (ws := wsX5_in) B.pre w (List.mem_cons_of_mem _ h)
  have hown : s.vm.findClass RX5 = some m.cls := findClass_of_methodNamed B.named
  have hlocks := B.notSynchronized
  have hK := hwd.1
  have hS : va_S (fun q => lo ≤ q) s.heap s.heap [] := va_S.rf
  have hl := lv_entry ([.long x, .long a, .long b]) (n := 6) (Nat.le_of_ble_eq_true rfl)
  rw [lg_entry_eq]
  generalize (lg_sl ([.long x, .long a, .long b]) ++ List.replicate (6 - (lg_sl ([.long x, .long a, .long b])).length) Slot.unset).toArray = ls at hl ⊢
  have hl : lv_has ls 6 [(0, .long x), (2, .long a), (4, .long b)] := hl
  refine lv_lload_n hx hb dX5_in_0 rfl (lv_at hl 0 rfl) ?_
  refine lv_lload_n hx hb dX5_in_1 rfl (lv_at hl 1 rfl) ?_
  refine W.lcmp hx hb dX5_in_2 ?_
  refine lv_if_lt (tgt := 17) hx hb dX5_in_3 (by decide) (fun c_3 => ?_) (fun c_3 => ?_)
  · have c_3 : x < a := (lg_cmp_lt _ _).mp c_3
    refine lv_iconst (v := 0) hx hb dX5_in_17 (by decide) ?_
    exact W.zret (v := 0) hx hb hr rfl (fun t ht hW => ⟨_, rfl, (bp_f (fun h => h.1 c_3)), ht⟩) (fun q h => by cases h) dX5_in_18
  · have c_3 : ¬ x < a := fun h => c_3 ((lg_cmp_lt _ _).mpr h)
    refine lv_lload_n hx hb dX5_in_6 rfl (lv_at hl 0 rfl) ?_
    refine lv_lload hx hb dX5_in_7 (lv_at hl 2 rfl) ?_
    refine W.lcmp hx hb dX5_in_9 ?_
    refine lv_if_gt (tgt := 17) hx hb dX5_in_10 (by decide) (fun c_10 => ?_) (fun c_10 => ?_)
    · have c_10 : b < x := (lg_cmp_gt _ _).mp c_10
      refine lv_iconst (v := 0) hx hb dX5_in_17 (by decide) ?_
      exact W.zret (v := 0) hx hb hr rfl (fun t ht hW => ⟨_, rfl, (bp_f (fun h => h.2 c_10)), ht⟩) (fun q h => by cases h) dX5_in_18
    · have c_10 : ¬ b < x := fun h => c_10 ((lg_cmp_gt _ _).mpr h)
      refine lv_iconst (v := 1) hx hb dX5_in_13 (by decide) ?_
      refine lv_goto (tgt := 18) hx hb dX5_in_14 (by decide) ?_
      exact W.zret (v := 1) hx hb hr rfl (fun t ht hW => ⟨_, rfl, (bp_t ⟨c_3, c_10⟩), ht⟩) (fun q h => by cases h) dX5_in_18

set_option maxHeartbeats 4000000 in
set_option maxRecDepth 100000 in
theorem m_isHolder (l : Launch) (D : va_G) (dA : Nat → ClassId) (sa : Nat → Nat) (lo : Nat) (al : Nat → Nat → Nat) (σ μ : CS) (x : Int32) : Met l yX5_isHolder wsX5_isHolder ({ frames := 0, cells := 0, slots := 0, locals := 0 }) (va_Pc [.int x] (ivP D dA sa lo al σ μ)) (vp_Si (fun z9 => z9 = bp (pHold x) inferInstance)) 0 0 (fun _ => False) := by
  refine Met.ofW (cc := cX5_isHolder) (maxL := 1) (ret := some .boolean) (by decide) rfl ?_
  intro p e s m args below meth c s₁ B hml hv
  obtain ⟨rfl, hI, hwd⟩ := hv
  have hx := B.exec
  have hb := B.bytes
  have hr := B.returns
  have hts : ∀ w ∈ WSall, w.before _ s = true := fun w h => atoms_spec (ws := wsX5_isHolder) B.pre w (List.mem_cons_of_mem _ h)
  have hown : s.vm.findClass RX5 = some m.cls := findClass_of_methodNamed B.named
  have hlocks := B.notSynchronized
  have hK := hwd.1
  have hS : va_S (fun q => lo ≤ q) s.heap s.heap [] := va_S.rf
  have hl := lv_entry ([.int x]) (n := 1) (Nat.le_of_ble_eq_true rfl)
  rw [lg_entry_eq]
  generalize (lg_sl ([.int x]) ++ List.replicate (1 - (lg_sl ([.int x])).length) Slot.unset).toArray = ls at hl ⊢
  have hl : lv_has ls 1 [(0, .int x)] := hl
  refine lv_iload_n hx hb dX5_isHolder_0 rfl (lv_at hl 0 rfl) ?_
  refine lv_if_lt (tgt := 14) hx hb dX5_isHolder_1 (by decide) (fun c_1 => ?_) (fun c_1 => ?_)
  · refine lv_iconst (v := 0) hx hb dX5_isHolder_14 (by decide) ?_
    exact W.zret (v := 0) hx hb hr rfl (fun t ht hW => ⟨_, rfl, (bp_f (fun h => h.1 c_1)), ht⟩) (fun q h => by cases h) dX5_isHolder_15
  · refine lv_iload_n hx hb dX5_isHolder_4 rfl (lv_at hl 0 rfl) ?_
    refine lv_bipush (v := 8) hx hb dX5_isHolder_5 (by decide) ?_
    refine lv_icmp_ge (tgt := 14) hx hb dX5_isHolder_7 (by decide) (fun c_7 => ?_) (fun c_7 => ?_)
    · refine lv_iconst (v := 0) hx hb dX5_isHolder_14 (by decide) ?_
      exact W.zret (v := 0) hx hb hr rfl (fun t ht hW => ⟨_, rfl, (bp_f (fun h => h.2 c_7)), ht⟩) (fun q h => by cases h) dX5_isHolder_15
    · refine lv_iconst (v := 1) hx hb dX5_isHolder_10 (by decide) ?_
      refine lv_goto (tgt := 15) hx hb dX5_isHolder_11 (by decide) ?_
      exact W.zret (v := 1) hx hb hr rfl (fun t ht hW => ⟨_, rfl, (bp_t ⟨c_1, c_7⟩), ht⟩) (fun q h => by cases h) dX5_isHolder_15

set_option maxHeartbeats 4000000 in
set_option maxRecDepth 100000 in
theorem m_isGuarantee (l : Launch) (D : va_G) (dA : Nat → ClassId) (sa : Nat → Nat) (lo : Nat) (al : Nat → Nat → Nat) (σ μ : CS) (x : Int32) : Met l yX5_isGuarantee wsX5_isGuarantee ({ frames := 0, cells := 0, slots := 0, locals := 0 }) (va_Pc [.ref (al 8 0), .int x] (ivP D dA sa lo al σ μ)) (vp_Si (fun z9 => z9 = bp (pNum x (fI μ 8 0 1)) inferInstance)) 0 0 (fun _ => False) := by
  refine Met.ofW (cc := cX5_isGuarantee) (maxL := 2) (ret := some .boolean) (by decide) rfl ?_
  intro p e s m args below meth c s₁ B hml hv
  obtain ⟨rfl, hI, hwd⟩ := hv
  have hx := B.exec
  have hb := B.bytes
  have hr := B.returns
  have hts : ∀ w ∈ WSall, w.before _ s = true := fun w h => atoms_spec (ws := wsX5_isGuarantee) B.pre w (List.mem_cons_of_mem _ h)
  have hown : s.vm.findClass RX5 = some m.cls := findClass_of_methodNamed B.named
  have hlocks := B.notSynchronized
  have hK := hwd.1
  have hS : va_S (fun q => lo ≤ q) s.heap s.heap [] := va_S.rf
  have hl := lv_entry ([.ref (al 8 0), .int x]) (n := 2) (Nat.le_of_ble_eq_true rfl)
  rw [lg_entry_eq]
  generalize (lg_sl ([.ref (al 8 0), .int x]) ++ List.replicate (2 - (lg_sl ([.ref (al 8 0), .int x])).length) Slot.unset).toArray = ls at hl ⊢
  have hl : lv_has ls 2 [(0, .ref (al 8 0)), (1, .int x)] := hl
  refine lv_iload_n hx hb dX5_isGuarantee_0 rfl (lv_at hl 1 rfl) ?_
  refine lv_iconst (v := 1) hx hb dX5_isGuarantee_1 (by decide) ?_
  refine lv_icmp_lt (tgt := 17) hx hb dX5_isGuarantee_2 (by decide) (fun c_2 => ?_) (fun c_2 => ?_)
  · refine lv_iconst (v := 0) hx hb dX5_isGuarantee_17 (by decide) ?_
    exact W.zret (v := 0) hx hb hr rfl (fun t ht hW => ⟨_, rfl, (bp_f (fun h => h.1 c_2)), ht⟩) (fun q h => by cases h) dX5_isGuarantee_18
  · refine lv_iload_n hx hb dX5_isGuarantee_5 rfl (lv_at hl 1 rfl) ?_
    refine lv_aload_n hx hb dX5_isGuarantee_6 rfl (lv_at hl 0 rfl) ?_
    refine sx_get (ci := 5) (C := RX5) (T := TX5) (N := 24) (v := .int (fI μ 8 0 1)) hx hb hts inX5 hown hK (c8_at hI) rfl 1 (by decide) (hts _ w_3_37) rfl rfl dX5_isGuarantee_7 ?_
    refine lv_icmp_gt (tgt := 17) hx hb dX5_isGuarantee_10 (by decide) (fun c_10 => ?_) (fun c_10 => ?_)
    · refine lv_iconst (v := 0) hx hb dX5_isGuarantee_17 (by decide) ?_
      exact W.zret (v := 0) hx hb hr rfl (fun t ht hW => ⟨_, rfl, (bp_f (fun h => h.2 c_10)), ht⟩) (fun q h => by cases h) dX5_isGuarantee_18
    · refine lv_iconst (v := 1) hx hb dX5_isGuarantee_13 (by decide) ?_
      refine lv_goto (tgt := 18) hx hb dX5_isGuarantee_14 (by decide) ?_
      exact W.zret (v := 1) hx hb hr rfl (fun t ht hW => ⟨_, rfl, (bp_t ⟨c_2, c_10⟩), ht⟩) (fun q h => by cases h) dX5_isGuarantee_18

set_option maxHeartbeats 4000000 in
set_option maxRecDepth 100000 in
theorem m_isReservation (l : Launch) (D : va_G) (dA : Nat → ClassId) (sa : Nat → Nat) (lo : Nat) (al : Nat → Nat → Nat) (σ μ : CS) (x : Int32) : Met l yX5_isReservation wsX5_isReservation ({ frames := 0, cells := 0, slots := 0, locals := 0 }) (va_Pc [.ref (al 8 0), .int x] (ivP D dA sa lo al σ μ)) (vp_Si (fun z9 => z9 = bp (pNum x (fI μ 8 0 15)) inferInstance)) 0 0 (fun _ => False) := by
  refine Met.ofW (cc := cX5_isReservation) (maxL := 2) (ret := some .boolean) (by decide) rfl ?_
  intro p e s m args below meth c s₁ B hml hv
  obtain ⟨rfl, hI, hwd⟩ := hv
  have hx := B.exec
  have hb := B.bytes
  have hr := B.returns
  have hts : ∀ w ∈ WSall, w.before _ s = true := fun w h => atoms_spec (ws := wsX5_isReservation) B.pre w (List.mem_cons_of_mem _ h)
  have hown : s.vm.findClass RX5 = some m.cls := findClass_of_methodNamed B.named
  have hlocks := B.notSynchronized
  have hK := hwd.1
  have hS : va_S (fun q => lo ≤ q) s.heap s.heap [] := va_S.rf
  have hl := lv_entry ([.ref (al 8 0), .int x]) (n := 2) (Nat.le_of_ble_eq_true rfl)
  rw [lg_entry_eq]
  generalize (lg_sl ([.ref (al 8 0), .int x]) ++ List.replicate (2 - (lg_sl ([.ref (al 8 0), .int x])).length) Slot.unset).toArray = ls at hl ⊢
  have hl : lv_has ls 2 [(0, .ref (al 8 0)), (1, .int x)] := hl
  refine lv_iload_n hx hb dX5_isReservation_0 rfl (lv_at hl 1 rfl) ?_
  refine lv_iconst (v := 1) hx hb dX5_isReservation_1 (by decide) ?_
  refine lv_icmp_lt (tgt := 17) hx hb dX5_isReservation_2 (by decide) (fun c_2 => ?_) (fun c_2 => ?_)
  · refine lv_iconst (v := 0) hx hb dX5_isReservation_17 (by decide) ?_
    exact W.zret (v := 0) hx hb hr rfl (fun t ht hW => ⟨_, rfl, (bp_f (fun h => h.1 c_2)), ht⟩) (fun q h => by cases h) dX5_isReservation_18
  · refine lv_iload_n hx hb dX5_isReservation_5 rfl (lv_at hl 1 rfl) ?_
    refine lv_aload_n hx hb dX5_isReservation_6 rfl (lv_at hl 0 rfl) ?_
    refine sx_get (ci := 5) (C := RX5) (T := TX5) (N := 24) (v := .int (fI μ 8 0 15)) hx hb hts inX5 hown hK (c8_at hI) rfl 15 (by decide) (hts _ w_3_51) rfl rfl dX5_isReservation_7 ?_
    refine lv_icmp_gt (tgt := 17) hx hb dX5_isReservation_10 (by decide) (fun c_10 => ?_) (fun c_10 => ?_)
    · refine lv_iconst (v := 0) hx hb dX5_isReservation_17 (by decide) ?_
      exact W.zret (v := 0) hx hb hr rfl (fun t ht hW => ⟨_, rfl, (bp_f (fun h => h.2 c_10)), ht⟩) (fun q h => by cases h) dX5_isReservation_18
    · refine lv_iconst (v := 1) hx hb dX5_isReservation_13 (by decide) ?_
      refine lv_goto (tgt := 18) hx hb dX5_isReservation_14 (by decide) ?_
      exact W.zret (v := 1) hx hb hr rfl (fun t ht hW => ⟨_, rfl, (bp_t ⟨c_2, c_10⟩), ht⟩) (fun q h => by cases h) dX5_isReservation_18

set_option maxHeartbeats 4000000 in
set_option maxRecDepth 100000 in
theorem m_needs (l : Launch) (D : va_G) (dA : Nat → ClassId) (sa : Nat → Nat) (lo : Nat) (al : Nat → Nat → Nat) (σ μ : CS) (g : Nat) (hg : g ≤ 20) (hd : ¬ fI μ 9 3 g = 0) (x : Int64) : Met l yX5_needs wsX5_needs ({ frames := 0, cells := 0, slots := 0, locals := 0 }) (va_Pc [.ref (al 8 0), .int (nI g), .long x] (ivP D dA sa lo al σ μ)) (vp_Sl (fun z9 => z9 = mNeeds μ g x)) 0 0 (fun _ => False) := by
  refine Met.ofW (cc := cX5_needs) (maxL := 6) (ret := some .long) (by decide) rfl ?_
  intro p e s m args below meth c s₁ B hml hv
  obtain ⟨rfl, hI, hwd⟩ := hv
  have hx := B.exec
  have hb := B.bytes
  have hr := B.returns
  have hts : ∀ w ∈ WSall, w.before _ s = true := fun w h => atoms_spec (ws := wsX5_needs) B.pre w (List.mem_cons_of_mem _ h)
  have hown : s.vm.findClass RX5 = some m.cls := findClass_of_methodNamed B.named
  have hlocks := B.notSynchronized
  have hK := hwd.1
  have hS : va_S (fun q => lo ≤ q) s.heap s.heap [] := va_S.rf
  have hl := lv_entry ([.ref (al 8 0), .int (nI g), .long x]) (n := 6) (Nat.le_of_ble_eq_true rfl)
  rw [lg_entry_eq]
  generalize (lg_sl ([.ref (al 8 0), .int (nI g), .long x]) ++ List.replicate (6 - (lg_sl ([.ref (al 8 0), .int (nI g), .long x])).length) Slot.unset).toArray = ls at hl ⊢
  have hl : lv_has ls 6 [(0, .ref (al 8 0)), (1, .int (nI g)), (2, .long x)] := hl
  have hcg : (nI g).toNatClampNeg = g := nI_clamp (by omega)
  refine lv_lload_n hx hb dX5_needs_0 rfl (lv_at hl 2 rfl) ?_
  refine lv_aload_n hx hb dX5_needs_1 rfl (lv_at hl 0 rfl) ?_
  refine sx_get (ci := 5) (C := RX5) (T := TX5) (N := 24) (v := .ref (al 9 2)) hx hb hts inX5 hown hK (c8_at hI) rfl 5 (by decide) (hts _ w_3_41) rfl rfl dX5_needs_2 ?_
  refine lv_iload_n hx hb dX5_needs_5 rfl (lv_at hl 1 rfl) ?_
  refine sx_iald hx hb hK (c9_2_at hI) 0 rfl (vp_in_nI (show g < 21 by omega) (by decide)) dX5_needs_6 ?_
  rw [hcg]
  refine lv_i2l hx hb dX5_needs_7 rfl ?_
  refine lv_lmul hx hb dX5_needs_8 ?_
  refine lv_lstore (lv' := [(4, .long (x * (fI μ 9 2 g).toInt64)), (0, .ref (al 8 0)), (1, .int (nI g)), (2, .long x)]) hx hb dX5_needs_9 hl (by decide) rfl (fun ls hl => ?_)
  refine lv_lload hx hb dX5_needs_11 (lv_at hl 0 rfl) ?_
  refine lv_aload_n hx hb dX5_needs_13 rfl (lv_at hl 1 rfl) ?_
  refine sx_get (ci := 5) (C := RX5) (T := TX5) (N := 24) (v := .ref (al 9 3)) hx hb hts inX5 hown hK (c8_at hI) rfl 6 (by decide) (hts _ w_3_42) rfl rfl dX5_needs_14 ?_
  refine lv_iload_n hx hb dX5_needs_17 rfl (lv_at hl 2 rfl) ?_
  refine sx_iald hx hb hK (c9_3_at hI) 0 rfl (vp_in_nI (show g < 21 by omega) (by decide)) dX5_needs_18 ?_
  rw [hcg]
  refine lv_i2l hx hb dX5_needs_19 rfl ?_
  refine lv_ldiv hx hb dX5_needs_20 (fun h => hd (i64_0 h)) ?_
  refine lv_lload hx hb dX5_needs_21 (lv_at hl 0 rfl) ?_
  refine lv_aload_n hx hb dX5_needs_23 rfl (lv_at hl 1 rfl) ?_
  refine sx_get (ci := 5) (C := RX5) (T := TX5) (N := 24) (v := .ref (al 9 3)) hx hb hts inX5 hown hK (c8_at hI) rfl 6 (by decide) (hts _ w_3_42) rfl rfl dX5_needs_24 ?_
  refine lv_iload_n hx hb dX5_needs_27 rfl (lv_at hl 2 rfl) ?_
  refine sx_iald hx hb hK (c9_3_at hI) 0 rfl (vp_in_nI (show g < 21 by omega) (by decide)) dX5_needs_28 ?_
  rw [hcg]
  refine lv_i2l hx hb dX5_needs_29 rfl ?_
  refine lv_lrem hx hb dX5_needs_30 (fun h => hd (i64_0 h)) ?_
  refine lv_lconst (v := 0) hx hb dX5_needs_31 (by decide) ?_
  refine W.lcmp hx hb dX5_needs_32 ?_
  refine lv_if_le (tgt := 40) hx hb dX5_needs_33 (by decide) (fun c_33 => ?_) (fun c_33 => ?_)
  · have c_33 : ((x * (fI μ 9 2 g).toInt64) - (x * (fI μ 9 2 g).toInt64) / (fI μ 9 3 g).toInt64 * (fI μ 9 3 g).toInt64) ≤ 0 := (lg_cmp_le _ _).mp c_33
    refine lv_lconst (v := 0) hx hb dX5_needs_40 (by decide) ?_
    refine lv_ladd hx hb dX5_needs_41 ?_
    exact W.lret (v := ((x * (fI μ 9 2 g).toInt64) / (fI μ 9 3 g).toInt64) + 0) hx hb hr (fun t ht hW => ⟨_, rfl, (by unfold mNeeds; simp only [if_pos c_33]), ht⟩) (fun q h => by cases h) dX5_needs_42
  · have c_33 : ¬ ((x * (fI μ 9 2 g).toInt64) - (x * (fI μ 9 2 g).toInt64) / (fI μ 9 3 g).toInt64 * (fI μ 9 3 g).toInt64) ≤ 0 := fun h => c_33 ((lg_cmp_le _ _).mpr h)
    refine lv_lconst (v := 1) hx hb dX5_needs_36 (by decide) ?_
    refine lv_goto (tgt := 41) hx hb dX5_needs_37 (by decide) ?_
    refine lv_ladd hx hb dX5_needs_41 ?_
    exact W.lret (v := ((x * (fI μ 9 2 g).toInt64) / (fI μ 9 3 g).toInt64) + 1) hx hb hr (fun t ht hW => ⟨_, rfl, (by unfold mNeeds; simp only [if_neg c_33]), ht⟩) (fun q h => by cases h) dX5_needs_42

set_option maxHeartbeats 4000000 in
set_option maxRecDepth 100000 in
theorem m_needed (l : Launch) (D : va_G) (dA : Nat → ClassId) (sa : Nat → Nat) (lo : Nat) (al : Nat → Nat → Nat) (σ μ : CS) (g : Nat) (n r : Nat) (hw : WFm μ n r) (hg1 : 1 ≤ g) (hgn9 : g ≤ n) : Met l yX5_needed wsX5_needed ({ frames := 1, cells := 0, slots := 0, locals := 30 }) (va_Pc [.ref (al 8 0), .int (nI g)] (ivP D dA sa lo al σ μ)) (vp_Sl (fun z9 => z9 = mNd μ g r)) 0 0 (fun _ => False) := by
  refine Met.ofW (cc := cX5_needed) (maxL := 6) (ret := some .long) (by decide) rfl ?_
  intro p e s m args below meth c s₁ B hml hv
  obtain ⟨rfl, hI, hwd⟩ := hv
  have hx := B.exec
  have hb := B.bytes
  have hr := B.returns
  have hts : ∀ w ∈ WSall, w.before _ s = true := fun w h => atoms_spec (ws := wsX5_needed) B.pre w (List.mem_cons_of_mem _ h)
  have hown : s.vm.findClass RX5 = some m.cls := findClass_of_methodNamed B.named
  have hlocks := B.notSynchronized
  have hK := hwd.1
  have hS : va_S (fun q => lo ≤ q) s.heap s.heap [] := va_S.rf
  have hl := lv_entry ([.ref (al 8 0), .int (nI g)]) (n := 6) (Nat.le_of_ble_eq_true rfl)
  rw [lg_entry_eq]
  generalize (lg_sl ([.ref (al 8 0), .int (nI g)]) ++ List.replicate (6 - (lg_sl ([.ref (al 8 0), .int (nI g)])).length) Slot.unset).toArray = ls at hl ⊢
  have hl : lv_has ls 6 [(0, .ref (al 8 0)), (1, .int (nI g))] := hl
  obtain ⟨hn20, hr60, hgn, hrn, hor, hpt, hpr, hdn⟩ := id hw
  have hd : ¬ fI μ 9 3 g = 0 := hdn g hg1 hgn9
  have hg : g ≤ 20 := by omega
  refine lv_lconst (v := 0) hx hb dX5_needed_0 (by decide) ?_
  refine lv_lstore_n (lv' := [(2, .long 0), (0, .ref (al 8 0)), (1, .int (nI g))]) hx hb dX5_needed_1 rfl hl (by decide) rfl (fun ls hl => ?_)
  refine lv_iconst (v := 1) hx hb dX5_needed_2 (by decide) ?_
  refine lv_istore (lv' := [(4, .int 1), (2, .long 0), (0, .ref (al 8 0)), (1, .int (nI g))]) hx hb dX5_needed_3 hl (by decide) rfl (fun ls hl => ?_)
  refine w_loopP (hd := 5) (stk := []) (X := Nat) (fun j => r - j) (fun j ls => (j ≤ r) ∧ lv_has ls 6 [(4, .int (nI (j + 1))), (2, .long (mNd μ g j)), (1, .int (nI g)), (0, .ref (al 8 0))]) (fun j ls hk ih_5 => ?_) 0 ls ⟨Nat.zero_le _, (by have h9 := lv_sub hl [0, 1, 3, 2] rfl; rw [show (1 : Int32) = nI (0 + 1) from rfl] at h9; exact h9)⟩
  obtain ⟨hk, hl⟩ := hk
  have hl : lv_has ls 6 [(4, .int (nI (j + 1))), (2, .long (mNd μ g j)), (1, .int (nI g)), (0, .ref (al 8 0))] := hl
  refine lv_iload hx hb dX5_needed_5 (lv_at hl 0 rfl) ?_
  refine lv_aload_n hx hb dX5_needed_7 rfl (lv_at hl 3 rfl) ?_
  refine sx_get (ci := 5) (C := RX5) (T := TX5) (N := 24) (v := .int (fI μ 8 0 15)) hx hb hts inX5 hown hK (c8_at hI) rfl 15 (by decide) (hts _ w_3_51) rfl rfl dX5_needed_8 ?_
  refine lv_icmp_gt (tgt := 79) hx hb dX5_needed_11 (by decide) (fun c_11 => ?_) (fun c_11 => ?_)
  · refine lv_lload_n hx hb dX5_needed_79 rfl (lv_at hl 1 rfl) ?_
    exact W.lret (v := mNd μ g j) hx hb hr (fun t ht hW => ⟨_, rfl, (by have h := gt_end hrn c_11 hk (by omega); subst h; rfl), ht⟩) (fun q h => by cases h) dX5_needed_80
  · have hjr : j < r := gt_lt hrn c_11 (by omega) (by omega)
    obtain ⟨p, hp4, hpp⟩ := hpt (j + 1) (by omega)
    have hmp : mP μ (j + 1) = p := by unfold mP; rw [hpp]; exact nI_clamp (by omega)
    have hcj : (nI (j + 1)).toNatClampNeg = j + 1 := nI_clamp (by omega)
    refine lv_iconst (v := 4) hx hb dX5_needed_14 (by decide) ?_
    refine lv_iload hx hb dX5_needed_15 (lv_at hl 0 rfl) ?_
    refine lv_imul hx hb dX5_needed_17 ?_
    refine lv_istore (lv' := [(5, .int (4 * (nI (j + 1)))), (4, .int (nI (j + 1))), (2, .long (mNd μ g j)), (1, .int (nI g)), (0, .ref (al 8 0))]) hx hb dX5_needed_18 hl (by decide) rfl (fun ls hl => ?_)
    refine w_loopP (hd := 20) (stk := []) (X := Nat) (fun k => p - k) (fun k ls => (k ≤ p) ∧ lv_has ls 6 [(5, .int (nI (4 * (j + 1) + k))), (4, .int (nI (j + 1))), (2, .long (mNdI μ g (j + 1) (mNd μ g j) k)), (1, .int (nI g)), (0, .ref (al 8 0))]) (fun k ls hk ih_20 => ?_) 0 ls ⟨Nat.zero_le _, (by have h9 := lv_sub hl [0, 1, 2, 3, 4] rfl; rw [i4mul] at h9; exact h9)⟩
    obtain ⟨hk, hl⟩ := hk
    have hl : lv_has ls 6 [(5, .int (nI (4 * (j + 1) + k))), (4, .int (nI (j + 1))), (2, .long (mNdI μ g (j + 1) (mNd μ g j) k)), (1, .int (nI g)), (0, .ref (al 8 0))] := hl
    refine lv_iload hx hb dX5_needed_20 (lv_at hl 0 rfl) ?_
    refine lv_iconst (v := 4) hx hb dX5_needed_22 (by decide) ?_
    refine lv_iload hx hb dX5_needed_23 (lv_at hl 1 rfl) ?_
    refine lv_imul hx hb dX5_needed_25 ?_
    refine W.eq (g2 := F0 m 26 ls (.int (nI (4 * (j + 1))) :: [.int (nI (4 * (j + 1) + k))])) (by rw [i4mul]) ?_
    refine lv_aload_n hx hb dX5_needed_26 rfl (lv_at hl 4 rfl) ?_
    refine sx_get (ci := 5) (C := RX5) (T := TX5) (N := 24) (v := .ref (al 9 15)) hx hb hts inX5 hown hK (c8_at hI) rfl 19 (by decide) (hts _ w_3_55) rfl rfl dX5_needed_27 ?_
    refine lv_iload hx hb dX5_needed_30 (lv_at hl 1 rfl) ?_
    refine sx_iald hx hb hK (c9_15_at hI) 0 rfl (vp_in_nI (show j + 1 < 61 by omega) (by decide)) dX5_needed_32 ?_
    rw [hcj]
    refine lv_iadd hx hb dX5_needed_33 ?_
    refine W.eq (g2 := F0 m 34 ls (.int (nI (4 * (j + 1) + p)) :: [.int (nI (4 * (j + 1) + k))])) (by rw [hpp, nI_add]) ?_
    refine lv_icmp_ge (tgt := 73) hx hb dX5_needed_34 (by decide) (fun c_34 => ?_) (fun c_34 => ?_)
    · refine lv_iinc (v := (nI (j + 1)) + 1) (lv' := [(4, .int ((nI (j + 1)) + 1)), (5, .int (nI (4 * (j + 1) + k))), (2, .long (mNdI μ g (j + 1) (mNd μ g j) k)), (1, .int (nI g)), (0, .ref (al 8 0))]) hx hb dX5_needed_73 hl (k := 1) rfl rfl (by decide) rfl (fun ls hl => ?_)
      refine lv_goto (tgt := 5) hx hb dX5_needed_76 (by decide) ?_
      have hkp := lp_end (x := nI (4 * (j + 1) + p)) rfl c_34 (by omega) (by omega)
      have hkp : k = p := by omega
      subst hkp
      have hfn : mNdI μ g (j + 1) (mNd μ g j) k = mNd μ g (j + 1) := by rw [mNd, hmp]
      exact ih_5 (j + 1) ls (by omega) ⟨hjr, (by have h9 := lv_sub hl [0, 2, 3, 4] rfl; rw [nI_1, hfn] at h9; exact h9)⟩
    · have hlt : k < p := by
        have := lp_lt (x := nI (4 * (j + 1) + p)) rfl c_34 (by omega)
        omega
      have hck : (nI (4 * (j + 1) + k)).toNatClampNeg = 4 * (j + 1) + k := nI_clamp (by omega)
      refine lv_lload_n hx hb dX5_needed_37 rfl (lv_at hl 2 rfl) ?_
      refine lv_aload_n hx hb dX5_needed_38 rfl (lv_at hl 4 rfl) ?_
      refine sx_get (ci := 5) (C := RX5) (T := TX5) (N := 24) (v := .ref (al 9 16)) hx hb hts inX5 hown hK (c8_at hI) rfl 20 (by decide) (hts _ w_3_56) rfl rfl dX5_needed_39 ?_
      refine lv_iload hx hb dX5_needed_42 (lv_at hl 0 rfl) ?_
      refine sx_iald hx hb hK (c9_16_at hI) 0 rfl (vp_in_nI (show 4 * (j + 1) + k < 244 by omega) (by decide)) dX5_needed_44 ?_
      rw [hck]
      refine lv_iload_n hx hb dX5_needed_45 rfl (lv_at hl 3 rfl) ?_
      refine lv_icmp_ne (tgt := 64) hx hb dX5_needed_46 (by decide) (fun c_46 => ?_) (fun c_46 => ?_)
      · refine lv_lconst (v := 0) hx hb dX5_needed_64 (by decide) ?_
        refine lv_ladd hx hb dX5_needed_65 ?_
        refine W.eq (g2 := F0 m 66 ls (.long (mNdI μ g (j + 1) (mNd μ g j) (k + 1)) :: [])) (by rw [mNdI, if_neg c_46]) ?_
        refine lv_lstore_n (lv' := [(2, .long (mNdI μ g (j + 1) (mNd μ g j) (k + 1))), (5, .int (nI (4 * (j + 1) + k))), (4, .int (nI (j + 1))), (1, .int (nI g)), (0, .ref (al 8 0))]) hx hb dX5_needed_66 rfl hl (by decide) rfl (fun ls hl => ?_)
        refine lv_iinc (v := (nI (4 * (j + 1) + k)) + 1) (lv' := [(5, .int ((nI (4 * (j + 1) + k)) + 1)), (2, .long (mNdI μ g (j + 1) (mNd μ g j) (k + 1))), (4, .int (nI (j + 1))), (1, .int (nI g)), (0, .ref (al 8 0))]) hx hb dX5_needed_67 hl (k := 1) rfl rfl (by decide) rfl (fun ls hl => ?_)
        refine lv_goto (tgt := 20) hx hb dX5_needed_70 (by decide) ?_
        exact ih_20 (k + 1) ls (by omega) ⟨hlt, (by have h9 := lv_sub hl [0, 2, 1, 3, 4] rfl; rw [nI_1] at h9; exact h9)⟩
      · refine lv_aload_n hx hb dX5_needed_49 rfl (lv_at hl 4 rfl) ?_
        refine lv_iload_n hx hb dX5_needed_50 rfl (lv_at hl 3 rfl) ?_
        refine lv_aload_n hx hb dX5_needed_51 rfl (lv_at hl 4 rfl) ?_
        refine sx_get (ci := 5) (C := RX5) (T := TX5) (N := 24) (v := .ref (al 9 17)) hx hb hts inX5 hown hK (c8_at hI) rfl 21 (by decide) (hts _ w_3_57) rfl rfl dX5_needed_52 ?_
        refine lv_iload hx hb dX5_needed_55 (lv_at hl 0 rfl) ?_
        refine sx_lald hx hb hK (c9_17_at hI) 1 rfl (vp_in_nI (show 4 * (j + 1) + k < 244 by omega) (by decide)) dX5_needed_57 ?_
        rw [hck]
        refine vp_callSl (W.runV (As := [.int (nI g), .long (fL μ 9 17 (4 * (j + 1) + k))]) (rest := [.long (mNdI μ g (j + 1) (mNd μ g j) k)]) ⟨hx, hb, hml, hown, hts⟩ (m_needs l D dA sa lo al σ μ g hg hd (fL μ 9 17 (4 * (j + 1) + k))) (cwV 2 hts (gdV w_3_166 w_3_168 wp_17 w_1_3 w_3_169) rfl rfl rfl (by decide +kernel) ⟨Nat.le_of_ble_eq_true rfl, Nat.le_of_ble_eq_true rfl⟩) ⟨iv_bl, sx_recv hK (c8_at hI) rfl, fun U hU hW => ⟨rfl, iv_use hI hwd hS hU hW⟩⟩ rfl rfl hl.1 rfl (lv_room (Nat.le_of_ble_eq_true rfl)) dX5_needed_58 ⟨Nat.le_of_ble_eq_true rfl, Nat.le_of_ble_eq_true rfl⟩) (fun r_58 e_58 => ?_)
        subst e_58
        refine lv_goto (tgt := 65) hx hb dX5_needed_61 (by decide) ?_
        refine lv_ladd hx hb dX5_needed_65 ?_
        refine W.eq (g2 := F0 m 66 ls (.long (mNdI μ g (j + 1) (mNd μ g j) (k + 1)) :: [])) (by rw [mNdI, if_pos c_46]) ?_
        refine lv_lstore_n (lv' := [(2, .long (mNdI μ g (j + 1) (mNd μ g j) (k + 1))), (5, .int (nI (4 * (j + 1) + k))), (4, .int (nI (j + 1))), (1, .int (nI g)), (0, .ref (al 8 0))]) hx hb dX5_needed_66 rfl hl (by decide) rfl (fun ls hl => ?_)
        refine lv_iinc (v := (nI (4 * (j + 1) + k)) + 1) (lv' := [(5, .int ((nI (4 * (j + 1) + k)) + 1)), (2, .long (mNdI μ g (j + 1) (mNd μ g j) (k + 1))), (4, .int (nI (j + 1))), (1, .int (nI g)), (0, .ref (al 8 0))]) hx hb dX5_needed_67 hl (k := 1) rfl rfl (by decide) rfl (fun ls hl => ?_)
        refine lv_goto (tgt := 20) hx hb dX5_needed_70 (by decide) ?_
        exact ih_20 (k + 1) ls (by omega) ⟨hlt, (by have h9 := lv_sub hl [0, 2, 1, 3, 4] rfl; rw [nI_1] at h9; exact h9)⟩

set_option maxHeartbeats 4000000 in
set_option maxRecDepth 100000 in
theorem m_used (l : Launch) (D : va_G) (dA : Nat → ClassId) (sa : Nat → Nat) (lo : Nat) (al : Nat → Nat → Nat) (σ μ : CS) (g : Nat) (n r : Nat) (hw : WFm μ n r) (hg1 : 1 ≤ g) (hgn9 : g ≤ n) : Met l yX5_used wsX5_used ({ frames := 1, cells := 0, slots := 0, locals := 30 }) (va_Pc [.ref (al 8 0), .int (nI g)] (ivP D dA sa lo al σ μ)) (vp_Si (fun z9 => z9 = mUs μ g r)) 0 0 (fun _ => False) := by
  refine Met.ofW (cc := cX5_used) (maxL := 5) (ret := some .int) (by decide) rfl ?_
  intro p e s m args below meth c s₁ B hml hv
  obtain ⟨rfl, hI, hwd⟩ := hv
  have hx := B.exec
  have hb := B.bytes
  have hr := B.returns
  have hts : ∀ w ∈ WSall, w.before _ s = true := fun w h => atoms_spec (ws := wsX5_used) B.pre w (List.mem_cons_of_mem _ h)
  have hown : s.vm.findClass RX5 = some m.cls := findClass_of_methodNamed B.named
  have hlocks := B.notSynchronized
  have hK := hwd.1
  have hS : va_S (fun q => lo ≤ q) s.heap s.heap [] := va_S.rf
  have hl := lv_entry ([.ref (al 8 0), .int (nI g)]) (n := 5) (Nat.le_of_ble_eq_true rfl)
  rw [lg_entry_eq]
  generalize (lg_sl ([.ref (al 8 0), .int (nI g)]) ++ List.replicate (5 - (lg_sl ([.ref (al 8 0), .int (nI g)])).length) Slot.unset).toArray = ls at hl ⊢
  have hl : lv_has ls 5 [(0, .ref (al 8 0)), (1, .int (nI g))] := hl
  obtain ⟨hn20, hr60, hgn, hrn, hor, hpt, hpr, hdn⟩ := id hw
  have hd : ¬ fI μ 9 3 g = 0 := hdn g hg1 hgn9
  have hg : g ≤ 20 := by omega
  refine lv_iconst (v := 0) hx hb dX5_used_0 (by decide) ?_
  refine lv_istore_n (lv' := [(2, .int 0), (0, .ref (al 8 0)), (1, .int (nI g))]) hx hb dX5_used_1 rfl hl (by decide) rfl (fun ls hl => ?_)
  refine lv_iconst (v := 1) hx hb dX5_used_2 (by decide) ?_
  refine lv_istore_n (lv' := [(3, .int 1), (2, .int 0), (0, .ref (al 8 0)), (1, .int (nI g))]) hx hb dX5_used_3 rfl hl (by decide) rfl (fun ls hl => ?_)
  refine w_loopP (hd := 4) (stk := []) (X := Nat) (fun j => r - j) (fun j ls => (j ≤ r) ∧ lv_has ls 5 [(3, .int (nI (j + 1))), (2, .int (mUs μ g j)), (1, .int (nI g)), (0, .ref (al 8 0))]) (fun j ls hk ih_4 => ?_) 0 ls ⟨Nat.zero_le _, (by have h9 := lv_sub hl [0, 1, 3, 2] rfl; rw [show (1 : Int32) = nI (0 + 1) from rfl] at h9; exact h9)⟩
  obtain ⟨hk, hl⟩ := hk
  have hl : lv_has ls 5 [(3, .int (nI (j + 1))), (2, .int (mUs μ g j)), (1, .int (nI g)), (0, .ref (al 8 0))] := hl
  refine lv_iload_n hx hb dX5_used_4 rfl (lv_at hl 0 rfl) ?_
  refine lv_aload_n hx hb dX5_used_5 rfl (lv_at hl 3 rfl) ?_
  refine sx_get (ci := 5) (C := RX5) (T := TX5) (N := 24) (v := .int (fI μ 8 0 15)) hx hb hts inX5 hown hK (c8_at hI) rfl 15 (by decide) (hts _ w_3_51) rfl rfl dX5_used_6 ?_
  refine lv_icmp_gt (tgt := 63) hx hb dX5_used_9 (by decide) (fun c_9 => ?_) (fun c_9 => ?_)
  · refine lv_iload_n hx hb dX5_used_63 rfl (lv_at hl 1 rfl) ?_
    exact W.iret (v := mUs μ g j) hx hb hr (fun t ht hW => ⟨_, rfl, (by have h := gt_end hrn c_9 hk (by omega); subst h; rfl), ht⟩) (fun q h => by cases h) dX5_used_64
  · have hjr : j < r := gt_lt hrn c_9 (by omega) (by omega)
    obtain ⟨p, hp4, hpp⟩ := hpt (j + 1) (by omega)
    have hmp : mP μ (j + 1) = p := by unfold mP; rw [hpp]; exact nI_clamp (by omega)
    have hcj : (nI (j + 1)).toNatClampNeg = j + 1 := nI_clamp (by omega)
    refine lv_iconst (v := 4) hx hb dX5_used_12 (by decide) ?_
    refine lv_iload_n hx hb dX5_used_13 rfl (lv_at hl 0 rfl) ?_
    refine lv_imul hx hb dX5_used_14 ?_
    refine lv_istore (lv' := [(4, .int (4 * (nI (j + 1)))), (3, .int (nI (j + 1))), (2, .int (mUs μ g j)), (1, .int (nI g)), (0, .ref (al 8 0))]) hx hb dX5_used_15 hl (by decide) rfl (fun ls hl => ?_)
    refine w_loopP (hd := 17) (stk := []) (X := Nat) (fun k => p - k) (fun k ls => (k ≤ p) ∧ lv_has ls 5 [(4, .int (nI (4 * (j + 1) + k))), (3, .int (nI (j + 1))), (2, .int (mUsI μ g (j + 1) (mUs μ g j) k)), (1, .int (nI g)), (0, .ref (al 8 0))]) (fun k ls hk ih_17 => ?_) 0 ls ⟨Nat.zero_le _, (by have h9 := lv_sub hl [0, 1, 2, 3, 4] rfl; rw [i4mul] at h9; exact h9)⟩
    obtain ⟨hk, hl⟩ := hk
    have hl : lv_has ls 5 [(4, .int (nI (4 * (j + 1) + k))), (3, .int (nI (j + 1))), (2, .int (mUsI μ g (j + 1) (mUs μ g j) k)), (1, .int (nI g)), (0, .ref (al 8 0))] := hl
    refine lv_iload hx hb dX5_used_17 (lv_at hl 0 rfl) ?_
    refine lv_iconst (v := 4) hx hb dX5_used_19 (by decide) ?_
    refine lv_iload_n hx hb dX5_used_20 rfl (lv_at hl 1 rfl) ?_
    refine lv_imul hx hb dX5_used_21 ?_
    refine W.eq (g2 := F0 m 22 ls (.int (nI (4 * (j + 1))) :: [.int (nI (4 * (j + 1) + k))])) (by rw [i4mul]) ?_
    refine lv_aload_n hx hb dX5_used_22 rfl (lv_at hl 4 rfl) ?_
    refine sx_get (ci := 5) (C := RX5) (T := TX5) (N := 24) (v := .ref (al 9 15)) hx hb hts inX5 hown hK (c8_at hI) rfl 19 (by decide) (hts _ w_3_55) rfl rfl dX5_used_23 ?_
    refine lv_iload_n hx hb dX5_used_26 rfl (lv_at hl 1 rfl) ?_
    refine sx_iald hx hb hK (c9_15_at hI) 0 rfl (vp_in_nI (show j + 1 < 61 by omega) (by decide)) dX5_used_27 ?_
    rw [hcj]
    refine lv_iadd hx hb dX5_used_28 ?_
    refine W.eq (g2 := F0 m 29 ls (.int (nI (4 * (j + 1) + p)) :: [.int (nI (4 * (j + 1) + k))])) (by rw [hpp, nI_add]) ?_
    refine lv_icmp_ge (tgt := 57) hx hb dX5_used_29 (by decide) (fun c_29 => ?_) (fun c_29 => ?_)
    · refine lv_iinc (v := (nI (j + 1)) + 1) (lv' := [(3, .int ((nI (j + 1)) + 1)), (4, .int (nI (4 * (j + 1) + k))), (2, .int (mUsI μ g (j + 1) (mUs μ g j) k)), (1, .int (nI g)), (0, .ref (al 8 0))]) hx hb dX5_used_57 hl (k := 1) rfl rfl (by decide) rfl (fun ls hl => ?_)
      refine lv_goto (tgt := 4) hx hb dX5_used_60 (by decide) ?_
      have hkp := lp_end (x := nI (4 * (j + 1) + p)) rfl c_29 (by omega) (by omega)
      have hkp : k = p := by omega
      subst hkp
      have hfn : mUsI μ g (j + 1) (mUs μ g j) k = mUs μ g (j + 1) := by rw [mUs, hmp]
      exact ih_4 (j + 1) ls (by omega) ⟨hjr, (by have h9 := lv_sub hl [0, 2, 3, 4] rfl; rw [nI_1, hfn] at h9; exact h9)⟩
    · have hlt : k < p := by
        have := lp_lt (x := nI (4 * (j + 1) + p)) rfl c_29 (by omega)
        omega
      have hck : (nI (4 * (j + 1) + k)).toNatClampNeg = 4 * (j + 1) + k := nI_clamp (by omega)
      refine lv_iload_n hx hb dX5_used_32 rfl (lv_at hl 2 rfl) ?_
      refine lv_aload_n hx hb dX5_used_33 rfl (lv_at hl 4 rfl) ?_
      refine sx_get (ci := 5) (C := RX5) (T := TX5) (N := 24) (v := .ref (al 9 16)) hx hb hts inX5 hown hK (c8_at hI) rfl 20 (by decide) (hts _ w_3_56) rfl rfl dX5_used_34 ?_
      refine lv_iload hx hb dX5_used_37 (lv_at hl 0 rfl) ?_
      refine sx_iald hx hb hK (c9_16_at hI) 0 rfl (vp_in_nI (show 4 * (j + 1) + k < 244 by omega) (by decide)) dX5_used_39 ?_
      rw [hck]
      refine lv_iload_n hx hb dX5_used_40 rfl (lv_at hl 3 rfl) ?_
      refine lv_icmp_ne (tgt := 48) hx hb dX5_used_41 (by decide) (fun c_41 => ?_) (fun c_41 => ?_)
      · refine lv_iconst (v := 0) hx hb dX5_used_48 (by decide) ?_
        refine lv_iadd hx hb dX5_used_49 ?_
        refine W.eq (g2 := F0 m 50 ls (.int (mUsI μ g (j + 1) (mUs μ g j) (k + 1)) :: [])) (by rw [mUsI, if_neg c_41]) ?_
        refine lv_istore_n (lv' := [(2, .int (mUsI μ g (j + 1) (mUs μ g j) (k + 1))), (4, .int (nI (4 * (j + 1) + k))), (3, .int (nI (j + 1))), (1, .int (nI g)), (0, .ref (al 8 0))]) hx hb dX5_used_50 rfl hl (by decide) rfl (fun ls hl => ?_)
        refine lv_iinc (v := (nI (4 * (j + 1) + k)) + 1) (lv' := [(4, .int ((nI (4 * (j + 1) + k)) + 1)), (2, .int (mUsI μ g (j + 1) (mUs μ g j) (k + 1))), (3, .int (nI (j + 1))), (1, .int (nI g)), (0, .ref (al 8 0))]) hx hb dX5_used_51 hl (k := 1) rfl rfl (by decide) rfl (fun ls hl => ?_)
        refine lv_goto (tgt := 17) hx hb dX5_used_54 (by decide) ?_
        exact ih_17 (k + 1) ls (by omega) ⟨hlt, (by have h9 := lv_sub hl [0, 2, 1, 3, 4] rfl; rw [nI_1] at h9; exact h9)⟩
      · refine lv_iconst (v := 1) hx hb dX5_used_44 (by decide) ?_
        refine lv_goto (tgt := 49) hx hb dX5_used_45 (by decide) ?_
        refine lv_iadd hx hb dX5_used_49 ?_
        refine W.eq (g2 := F0 m 50 ls (.int (mUsI μ g (j + 1) (mUs μ g j) (k + 1)) :: [])) (by rw [mUsI, if_pos c_41]) ?_
        refine lv_istore_n (lv' := [(2, .int (mUsI μ g (j + 1) (mUs μ g j) (k + 1))), (4, .int (nI (4 * (j + 1) + k))), (3, .int (nI (j + 1))), (1, .int (nI g)), (0, .ref (al 8 0))]) hx hb dX5_used_50 rfl hl (by decide) rfl (fun ls hl => ?_)
        refine lv_iinc (v := (nI (4 * (j + 1) + k)) + 1) (lv' := [(4, .int ((nI (4 * (j + 1) + k)) + 1)), (2, .int (mUsI μ g (j + 1) (mUs μ g j) (k + 1))), (3, .int (nI (j + 1))), (1, .int (nI g)), (0, .ref (al 8 0))]) hx hb dX5_used_51 hl (k := 1) rfl rfl (by decide) rfl (fun ls hl => ?_)
        refine lv_goto (tgt := 17) hx hb dX5_used_54 (by decide) ?_
        exact ih_17 (k + 1) ls (by omega) ⟨hlt, (by have h9 := lv_sub hl [0, 2, 1, 3, 4] rfl; rw [nI_1] at h9; exact h9)⟩

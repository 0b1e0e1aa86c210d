set_option maxHeartbeats 4000000 in
set_option maxRecDepth 100000 in
theorem k_isHolder (l : Launch) (D : va_G) (dA : Nat → ClassId) (sa : Nat → Nat) (lo : Nat) (al : Nat → Nat → Nat) (σ μ : CS) (x : Int32) : Met l yX0_isHolder wsX0_isHolder ({ frames := 0, cells := 0, slots := 0, locals := 0 }) (va_Pc [.int x] (ivP D dA sa lo al σ μ)) (vp_Si (fun r => r = bp (pHold x) inferInstance)) 0 0 (fun _ => False) := by
  refine Met.ofW (cc := cX0_isHolder) (maxL := 1) (ret := some .boolean) (by decide) rfl ?_
  intro p e s m args below meth c s₁ B hml hv
  obtain ⟨rfl, hI, hwd⟩ := hv
  have hx := B.exec
  have hb := B.bytes
  have hr := B.returns
  have hts : ∀ w ∈ WSall, w.before _ s = true := fun w h => atoms_spec (ws := wsX0_isHolder) B.pre w (List.mem_cons_of_mem _ h)
  have hown : s.vm.findClass RX0 = some m.cls := findClass_of_methodNamed B.named
  have hlocks := B.notSynchronized
  have hK := hwd.1
  have hS : va_S (fun q => lo ≤ q) s.heap s.heap [] := va_S.rf
  have hl := lv_entry ([.int x]) (n := 1) (Nat.le_of_ble_eq_true rfl)
  rw [lg_entry_eq]
  generalize (lg_sl ([.int x]) ++ List.replicate (1 - (lg_sl ([.int x])).length) Slot.unset).toArray = ls at hl ⊢
  have hl : lv_has ls 1 [(0, .int x)] := hl
  refine lv_iload_n hx hb dX0_isHolder_0 rfl (lv_at hl 0 rfl) ?_
  refine lv_if_lt (tgt := 14) hx hb dX0_isHolder_1 (by decide) (fun c_1 => ?_) (fun c_1 => ?_)
  · refine lv_iconst (v := 0) hx hb dX0_isHolder_14 (by decide) ?_
    exact W.zret (v := 0) hx hb hr rfl (fun t ht hW => ⟨_, rfl, (bp_f (fun h => h.1 c_1)), ht⟩) (fun q h => by cases h) dX0_isHolder_15
  · refine lv_iload_n hx hb dX0_isHolder_4 rfl (lv_at hl 0 rfl) ?_
    refine lv_bipush (v := 8) hx hb dX0_isHolder_5 (by decide) ?_
    refine lv_icmp_ge (tgt := 14) hx hb dX0_isHolder_7 (by decide) (fun c_7 => ?_) (fun c_7 => ?_)
    · refine lv_iconst (v := 0) hx hb dX0_isHolder_14 (by decide) ?_
      exact W.zret (v := 0) hx hb hr rfl (fun t ht hW => ⟨_, rfl, (bp_f (fun h => h.2 c_7)), ht⟩) (fun q h => by cases h) dX0_isHolder_15
    · refine lv_iconst (v := 1) hx hb dX0_isHolder_10 (by decide) ?_
      refine lv_goto (tgt := 15) hx hb dX0_isHolder_11 (by decide) ?_
      exact W.zret (v := 1) hx hb hr rfl (fun t ht hW => ⟨_, rfl, (bp_t ⟨c_1, c_7⟩), ht⟩) (fun q h => by cases h) dX0_isHolder_15

set_option maxHeartbeats 4000000 in
set_option maxRecDepth 100000 in
theorem k_isDesk (l : Launch) (D : va_G) (dA : Nat → ClassId) (sa : Nat → Nat) (lo : Nat) (al : Nat → Nat → Nat) (σ μ : CS) (x : Int32) : Met l yX0_isDesk wsX0_isDesk ({ frames := 0, cells := 0, slots := 0, locals := 0 }) (va_Pc [.int x] (ivP D dA sa lo al σ μ)) (vp_Si (fun r => r = bp (pDesk x) inferInstance)) 0 0 (fun _ => False) := by
  refine Met.ofW (cc := cX0_isDesk) (maxL := 1) (ret := some .boolean) (by decide) rfl ?_
  intro p e s m args below meth c s₁ B hml hv
  obtain ⟨rfl, hI, hwd⟩ := hv
  have hx := B.exec
  have hb := B.bytes
  have hr := B.returns
  have hts : ∀ w ∈ WSall, w.before _ s = true := fun w h => atoms_spec (ws := wsX0_isDesk) B.pre w (List.mem_cons_of_mem _ h)
  have hown : s.vm.findClass RX0 = some m.cls := findClass_of_methodNamed B.named
  have hlocks := B.notSynchronized
  have hK := hwd.1
  have hS : va_S (fun q => lo ≤ q) s.heap s.heap [] := va_S.rf
  have hl := lv_entry ([.int x]) (n := 1) (Nat.le_of_ble_eq_true rfl)
  rw [lg_entry_eq]
  generalize (lg_sl ([.int x]) ++ List.replicate (1 - (lg_sl ([.int x])).length) Slot.unset).toArray = ls at hl ⊢
  have hl : lv_has ls 1 [(0, .int x)] := hl
  refine lv_iload_n hx hb dX0_isDesk_0 rfl (lv_at hl 0 rfl) ?_
  refine lv_if_lt (tgt := 13) hx hb dX0_isDesk_1 (by decide) (fun c_1 => ?_) (fun c_1 => ?_)
  · refine lv_iconst (v := 0) hx hb dX0_isDesk_13 (by decide) ?_
    exact W.zret (v := 0) hx hb hr rfl (fun t ht hW => ⟨_, rfl, (bp_f (fun h => h.1 c_1)), ht⟩) (fun q h => by cases h) dX0_isDesk_14
  · refine lv_iload_n hx hb dX0_isDesk_4 rfl (lv_at hl 0 rfl) ?_
    refine lv_iconst (v := 4) hx hb dX0_isDesk_5 (by decide) ?_
    refine lv_icmp_ge (tgt := 13) hx hb dX0_isDesk_6 (by decide) (fun c_6 => ?_) (fun c_6 => ?_)
    · refine lv_iconst (v := 0) hx hb dX0_isDesk_13 (by decide) ?_
      exact W.zret (v := 0) hx hb hr rfl (fun t ht hW => ⟨_, rfl, (bp_f (fun h => h.2 c_6)), ht⟩) (fun q h => by cases h) dX0_isDesk_14
    · refine lv_iconst (v := 1) hx hb dX0_isDesk_9 (by decide) ?_
      refine lv_goto (tgt := 14) hx hb dX0_isDesk_10 (by decide) ?_
      exact W.zret (v := 1) hx hb hr rfl (fun t ht hW => ⟨_, rfl, (bp_t ⟨c_1, c_6⟩), ht⟩) (fun q h => by cases h) dX0_isDesk_14

set_option maxHeartbeats 4000000 in
set_option maxRecDepth 100000 in
theorem k_isCents (l : Launch) (D : va_G) (dA : Nat → ClassId) (sa : Nat → Nat) (lo : Nat) (al : Nat → Nat → Nat) (σ μ : CS) (x : Int64) : Met l yX0_isCents wsX0_isCents ({ frames := 0, cells := 0, slots := 0, locals := 0 }) (va_Pc [.long x] (ivP D dA sa lo al σ μ)) (vp_Si (fun r => r = bp (pCent x) inferInstance)) 0 0 (fun _ => False) := by
  refine Met.ofW (cc := cX0_isCents) (maxL := 2) (ret := some .boolean) (by decide) rfl ?_
  intro p e s m args below meth c s₁ B hml hv
  obtain ⟨rfl, hI, hwd⟩ := hv
  have hx := B.exec
  have hb := B.bytes
  have hr := B.returns
  have hts : ∀ w ∈ WSall, w.before _ s = true := fun w h => atoms_spec (ws := wsX0_isCents) B.pre w (List.mem_cons_of_mem _ h)
  have hown : s.vm.findClass RX0 = some m.cls := findClass_of_methodNamed B.named
  have hlocks := B.notSynchronized
  have hK := hwd.1
  have hS : va_S (fun q => lo ≤ q) s.heap s.heap [] := va_S.rf
  have hl := lv_entry ([.long x]) (n := 2) (Nat.le_of_ble_eq_true rfl)
  rw [lg_entry_eq]
  generalize (lg_sl ([.long x]) ++ List.replicate (2 - (lg_sl ([.long x])).length) Slot.unset).toArray = ls at hl ⊢
  have hl : lv_has ls 2 [(0, .long x)] := hl
  refine lv_lload_n hx hb dX0_isCents_0 rfl (lv_at hl 0 rfl) ?_
  refine lv_lconst (v := 1) hx hb dX0_isCents_1 (by decide) ?_
  refine W.lcmp hx hb dX0_isCents_2 ?_
  refine lv_if_lt (tgt := 18) hx hb dX0_isCents_3 (by decide) (fun c_3 => ?_) (fun c_3 => ?_)
  · have c_3 : x < 1 := (lg_cmp_lt _ _).mp c_3
    refine lv_iconst (v := 0) hx hb dX0_isCents_18 (by decide) ?_
    exact W.zret (v := 0) hx hb hr rfl (fun t ht hW => ⟨_, rfl, (bp_f (fun h => h.1 c_3)), ht⟩) (fun q h => by cases h) dX0_isCents_19
  · have c_3 : ¬ x < 1 := fun h => c_3 ((lg_cmp_lt _ _).mpr h)
    refine lv_lload_n hx hb dX0_isCents_6 rfl (lv_at hl 0 rfl) ?_
    refine lv_ldc2 (v := 1000000000) hx hb hown (hts _ w_1_187) dX0_isCents_7 ?_
    refine W.lcmp hx hb dX0_isCents_10 ?_
    refine lv_if_gt (tgt := 18) hx hb dX0_isCents_11 (by decide) (fun c_11 => ?_) (fun c_11 => ?_)
    · have c_11 : 1000000000 < x := (lg_cmp_gt _ _).mp c_11
      refine lv_iconst (v := 0) hx hb dX0_isCents_18 (by decide) ?_
      exact W.zret (v := 0) hx hb hr rfl (fun t ht hW => ⟨_, rfl, (bp_f (fun h => h.2 c_11)), ht⟩) (fun q h => by cases h) dX0_isCents_19
    · have c_11 : ¬ 1000000000 < x := fun h => c_11 ((lg_cmp_gt _ _).mpr h)
      refine lv_iconst (v := 1) hx hb dX0_isCents_14 (by decide) ?_
      refine lv_goto (tgt := 19) hx hb dX0_isCents_15 (by decide) ?_
      exact W.zret (v := 1) hx hb hr rfl (fun t ht hW => ⟨_, rfl, (bp_t ⟨c_3, c_11⟩), ht⟩) (fun q h => by cases h) dX0_isCents_19

set_option maxHeartbeats 4000000 in
set_option maxRecDepth 100000 in
theorem k_isShare (l : Launch) (D : va_G) (dA : Nat → ClassId) (sa : Nat → Nat) (lo : Nat) (al : Nat → Nat → Nat) (σ μ : CS) (u d : Int32) : Met l yX0_isShare wsX0_isShare ({ frames := 0, cells := 0, slots := 0, locals := 0 }) (va_Pc [.int u, .int d] (ivP D dA sa lo al σ μ)) (vp_Si (fun r => r = bp (pShare u d) inferInstance)) 0 0 (fun _ => False) := by
  refine Met.ofW (cc := cX0_isShare) (maxL := 2) (ret := some .boolean) (by decide) rfl ?_
  intro p e s m args below meth c s₁ B hml hv
  obtain ⟨rfl, hI, hwd⟩ := hv
  have hx := B.exec
  have hb := B.bytes
  have hr := B.returns
  have hts : ∀ w ∈ WSall, w.before _ s = true := fun w h => atoms_spec (ws := wsX0_isShare) B.pre w (List.mem_cons_of_mem _ h)
  have hown : s.vm.findClass RX0 = some m.cls := findClass_of_methodNamed B.named
  have hlocks := B.notSynchronized
  have hK := hwd.1
  have hS : va_S (fun q => lo ≤ q) s.heap s.heap [] := va_S.rf
  have hl := lv_entry ([.int u, .int d]) (n := 2) (Nat.le_of_ble_eq_true rfl)
  rw [lg_entry_eq]
  generalize (lg_sl ([.int u, .int d]) ++ List.replicate (2 - (lg_sl ([.int u, .int d])).length) Slot.unset).toArray = ls at hl ⊢
  have hl : lv_has ls 2 [(0, .int u), (1, .int d)] := hl
  refine lv_iload_n hx hb dX0_isShare_0 rfl (lv_at hl 0 rfl) ?_
  refine lv_if_lt (tgt := 24) hx hb dX0_isShare_1 (by decide) (fun c_1 => ?_) (fun c_1 => ?_)
  · refine lv_iconst (v := 0) hx hb dX0_isShare_24 (by decide) ?_
    exact W.zret (v := 0) hx hb hr rfl (fun t ht hW => ⟨_, rfl, (bp_f (fun h => h.1 c_1)), ht⟩) (fun q h => by cases h) dX0_isShare_25
  · refine lv_iload_n hx hb dX0_isShare_4 rfl (lv_at hl 1 rfl) ?_
    refine lv_iconst (v := 1) hx hb dX0_isShare_5 (by decide) ?_
    refine lv_icmp_lt (tgt := 24) hx hb dX0_isShare_6 (by decide) (fun c_6 => ?_) (fun c_6 => ?_)
    · refine lv_iconst (v := 0) hx hb dX0_isShare_24 (by decide) ?_
      exact W.zret (v := 0) hx hb hr rfl (fun t ht hW => ⟨_, rfl, (bp_f (fun h => h.2.1 c_6)), ht⟩) (fun q h => by cases h) dX0_isShare_25
    · refine lv_iload_n hx hb dX0_isShare_9 rfl (lv_at hl 1 rfl) ?_
      refine lv_bipush (v := 100) hx hb dX0_isShare_10 (by decide) ?_
      refine lv_icmp_gt (tgt := 24) hx hb dX0_isShare_12 (by decide) (fun c_12 => ?_) (fun c_12 => ?_)
      · refine lv_iconst (v := 0) hx hb dX0_isShare_24 (by decide) ?_
        exact W.zret (v := 0) hx hb hr rfl (fun t ht hW => ⟨_, rfl, (bp_f (fun h => h.2.2.1 c_12)), ht⟩) (fun q h => by cases h) dX0_isShare_25
      · refine lv_iload_n hx hb dX0_isShare_15 rfl (lv_at hl 0 rfl) ?_
        refine lv_iload_n hx hb dX0_isShare_16 rfl (lv_at hl 1 rfl) ?_
        refine lv_icmp_gt (tgt := 24) hx hb dX0_isShare_17 (by decide) (fun c_17 => ?_) (fun c_17 => ?_)
        · refine lv_iconst (v := 0) hx hb dX0_isShare_24 (by decide) ?_
          exact W.zret (v := 0) hx hb hr rfl (fun t ht hW => ⟨_, rfl, (bp_f (fun h => h.2.2.2 c_17)), ht⟩) (fun q h => by cases h) dX0_isShare_25
        · refine lv_iconst (v := 1) hx hb dX0_isShare_20 (by decide) ?_
          refine lv_goto (tgt := 25) hx hb dX0_isShare_21 (by decide) ?_
          exact W.zret (v := 1) hx hb hr rfl (fun t ht hW => ⟨_, rfl, (bp_t ⟨c_1, c_6, c_12, c_17⟩), ht⟩) (fun q h => by cases h) dX0_isShare_25

set_option maxHeartbeats 4000000 in
set_option maxRecDepth 100000 in
theorem k_guaranteeNumbered (l : Launch) (D : va_G) (dA : Nat → ClassId) (sa : Nat → Nat) (lo : Nat) (al : Nat → Nat → Nat) (σ μ : CS) (x : Int32) (n : Nat) (hn : fI σ 0 0 6 = nI n) (hn9 : n ≤ 20) (hg : ∀ i, i < n → fR σ 7 0 i = some i) : Met l yX0_guaranteeNumbered wsX0_guaranteeNumbered ({ frames := 0, cells := 0, slots := 0, locals := 0 }) (va_Pc [.ref (al 0 0), .int x] (ivP D dA sa lo al σ μ)) (va_Sq (fun r => (∃ i, i < n ∧ x = nI (i + 1) ∧ r = some (al 1 i)) ∨ ((x < 1 ∨ nI n < x) ∧ r = none))) 0 0 (fun _ => False) := by
  refine Met.ofW (cc := cX0_guaranteeNumbered) (maxL := 2) (ret := some (.object "GuaranteeBook$Guarantee")) (by decide) rfl ?_
  intro p e s m args below meth c s₁ B hml hv
  obtain ⟨rfl, hI, hwd⟩ := hv
  have hx := B.exec
  have hb := B.bytes
  have hr := B.returns
  have hts : ∀ w ∈ WSall, w.before _ s = true := fun w h => atoms_spec (ws := wsX0_guaranteeNumbered) B.pre w (List.mem_cons_of_mem _ h)
  have hown : s.vm.findClass RX0 = some m.cls := findClass_of_methodNamed B.named
  have hlocks := B.notSynchronized
  have hK := hwd.1
  have hS : va_S (fun q => lo ≤ q) s.heap s.heap [] := va_S.rf
  have hl := lv_entry ([.ref (al 0 0), .int x]) (n := 2) (Nat.le_of_ble_eq_true rfl)
  rw [lg_entry_eq]
  generalize (lg_sl ([.ref (al 0 0), .int x]) ++ List.replicate (2 - (lg_sl ([.ref (al 0 0), .int x])).length) Slot.unset).toArray = ls at hl ⊢
  have hl : lv_has ls 2 [(0, .ref (al 0 0)), (1, .int x)] := hl
  refine lv_iload_n hx hb dX0_guaranteeNumbered_0 rfl (lv_at hl 1 rfl) ?_
  refine lv_iconst (v := 1) hx hb dX0_guaranteeNumbered_1 (by decide) ?_
  refine lv_icmp_lt (tgt := 24) hx hb dX0_guaranteeNumbered_2 (by decide) (fun c_2 => ?_) (fun c_2 => ?_)
  · refine lv_null hx hb dX0_guaranteeNumbered_24 ?_
    exact W.aret (v := .null) hx hb hr (Or.inl ⟨_, rfl⟩) (Or.inl rfl) (fun t ht hW => ⟨none, rfl, (Or.inr ⟨Or.inl c_2, rfl⟩), ht⟩) (fun q h => by cases h) dX0_guaranteeNumbered_25
  · refine lv_iload_n hx hb dX0_guaranteeNumbered_5 rfl (lv_at hl 1 rfl) ?_
    refine lv_aload_n hx hb dX0_guaranteeNumbered_6 rfl (lv_at hl 0 rfl) ?_
    refine sx_get (ci := 0) (C := RX0) (T := TX0) (N := 10) (v := .int (fI σ 0 0 6)) hx hb hts inX0 hown hK (c0_at hI) rfl 6 (by decide) (hts _ w_1_65) rfl rfl dX0_guaranteeNumbered_7 ?_
    refine lv_icmp_gt (tgt := 24) hx hb dX0_guaranteeNumbered_10 (by decide) (fun c_10 => ?_) (fun c_10 => ?_)
    · refine lv_null hx hb dX0_guaranteeNumbered_24 ?_
      exact W.aret (v := .null) hx hb hr (Or.inl ⟨_, rfl⟩) (Or.inl rfl) (fun t ht hW => ⟨none, rfl, (Or.inr ⟨Or.inr (by rw [← hn]; exact c_10), rfl⟩), ht⟩) (fun q h => by cases h) dX0_guaranteeNumbered_25
    · rw [hn] at c_10
      obtain ⟨i, hi, ex⟩ := num_in c_2 c_10 (by omega)
      have hci : (x - 1).toNatClampNeg = i := by rw [ex, nI_pred]; exact nI_clamp (by omega)
      have hin : vp_in (x - 1) 20 := by rw [ex, nI_pred]; exact vp_in_nI (by omega) (by decide)
      refine lv_aload_n hx hb dX0_guaranteeNumbered_13 rfl (lv_at hl 0 rfl) ?_
      refine sx_get (ci := 0) (C := RX0) (T := TX0) (N := 10) (v := .ref (al 7 0)) hx hb hts inX0 hown hK (c0_at hI) rfl 0 (by decide) (hts _ w_1_59) rfl rfl dX0_guaranteeNumbered_14 ?_
      refine lv_iload_n hx hb dX0_guaranteeNumbered_17 rfl (lv_at hl 1 rfl) ?_
      refine lv_iconst (v := 1) hx hb dX0_guaranteeNumbered_18 (by decide) ?_
      refine lv_isub hx hb dX0_guaranteeNumbered_19 ?_
      refine sx_aldq hx hb hK (c7_0_at hI) 3 rfl hin dX0_guaranteeNumbered_20 ?_
      rw [hci]
      refine W.eq (g2 := F0 m 21 ls (.ref (al 1 i) :: [])) (congrArg (fun z => F0 m 21 ls (va_rf (Option.map (al 1) z) :: [])) (hg i hi)) ?_
      refine lv_goto (tgt := 25) hx hb dX0_guaranteeNumbered_21 (by decide) ?_
      exact W.aret (v := .ref (al 1 i)) hx hb hr (Or.inl ⟨_, rfl⟩) (Or.inr ⟨_, rfl⟩) (fun t ht hW => ⟨(some (al 1 i)), rfl, (Or.inl ⟨i, hi, ex, rfl⟩), ht⟩) (fun q h => by cases h) dX0_guaranteeNumbered_25

set_option maxHeartbeats 4000000 in
set_option maxRecDepth 100000 in
theorem k_reservationNumbered (l : Launch) (D : va_G) (dA : Nat → ClassId) (sa : Nat → Nat) (lo : Nat) (al : Nat → Nat → Nat) (σ μ : CS) (x : Int32) (n : Nat) (hn : fI σ 0 0 7 = nI n) (hn9 : n ≤ 60) (hg : ∀ i, i < n → fR σ 7 2 i = some i) : Met l yX0_reservationNumbered wsX0_reservationNumbered ({ frames := 0, cells := 0, slots := 0, locals := 0 }) (va_Pc [.ref (al 0 0), .int x] (ivP D dA sa lo al σ μ)) (va_Sq (fun r => (∃ i, i < n ∧ x = nI (i + 1) ∧ r = some (al 4 i)) ∨ ((x < 1 ∨ nI n < x) ∧ r = none))) 0 0 (fun _ => False) := by
  refine Met.ofW (cc := cX0_reservationNumbered) (maxL := 2) (ret := some (.object "GuaranteeBook$Reservation")) (by decide) rfl ?_
  intro p e s m args below meth c s₁ B hml hv
  obtain ⟨rfl, hI, hwd⟩ := hv
  have hx := B.exec
  have hb := B.bytes
  have hr := B.returns
  have hts : ∀ w ∈ WSall, w.before _ s = true := fun w h => atoms_spec (ws := wsX0_reservationNumbered) B.pre w (List.mem_cons_of_mem _ h)
  have hown : s.vm.findClass RX0 = some m.cls := findClass_of_methodNamed B.named
  have hlocks := B.notSynchronized
  have hK := hwd.1
  have hS : va_S (fun q => lo ≤ q) s.heap s.heap [] := va_S.rf
  have hl := lv_entry ([.ref (al 0 0), .int x]) (n := 2) (Nat.le_of_ble_eq_true rfl)
  rw [lg_entry_eq]
  generalize (lg_sl ([.ref (al 0 0), .int x]) ++ List.replicate (2 - (lg_sl ([.ref (al 0 0), .int x])).length) Slot.unset).toArray = ls at hl ⊢
  have hl : lv_has ls 2 [(0, .ref (al 0 0)), (1, .int x)] := hl
  refine lv_iload_n hx hb dX0_reservationNumbered_0 rfl (lv_at hl 1 rfl) ?_
  refine lv_iconst (v := 1) hx hb dX0_reservationNumbered_1 (by decide) ?_
  refine lv_icmp_lt (tgt := 24) hx hb dX0_reservationNumbered_2 (by decide) (fun c_2 => ?_) (fun c_2 => ?_)
  · refine lv_null hx hb dX0_reservationNumbered_24 ?_
    exact W.aret (v := .null) hx hb hr (Or.inl ⟨_, rfl⟩) (Or.inl rfl) (fun t ht hW => ⟨none, rfl, (Or.inr ⟨Or.inl c_2, rfl⟩), ht⟩) (fun q h => by cases h) dX0_reservationNumbered_25
  · refine lv_iload_n hx hb dX0_reservationNumbered_5 rfl (lv_at hl 1 rfl) ?_
    refine lv_aload_n hx hb dX0_reservationNumbered_6 rfl (lv_at hl 0 rfl) ?_
    refine sx_get (ci := 0) (C := RX0) (T := TX0) (N := 10) (v := .int (fI σ 0 0 7)) hx hb hts inX0 hown hK (c0_at hI) rfl 7 (by decide) (hts _ w_1_66) rfl rfl dX0_reservationNumbered_7 ?_
    refine lv_icmp_gt (tgt := 24) hx hb dX0_reservationNumbered_10 (by decide) (fun c_10 => ?_) (fun c_10 => ?_)
    · refine lv_null hx hb dX0_reservationNumbered_24 ?_
      exact W.aret (v := .null) hx hb hr (Or.inl ⟨_, rfl⟩) (Or.inl rfl) (fun t ht hW => ⟨none, rfl, (Or.inr ⟨Or.inr (by rw [← hn]; exact c_10), rfl⟩), ht⟩) (fun q h => by cases h) dX0_reservationNumbered_25
    · rw [hn] at c_10
      obtain ⟨i, hi, ex⟩ := num_in c_2 c_10 (by omega)
      have hci : (x - 1).toNatClampNeg = i := by rw [ex, nI_pred]; exact nI_clamp (by omega)
      have hin : vp_in (x - 1) 60 := by rw [ex, nI_pred]; exact vp_in_nI (by omega) (by decide)
      refine lv_aload_n hx hb dX0_reservationNumbered_13 rfl (lv_at hl 0 rfl) ?_
      refine sx_get (ci := 0) (C := RX0) (T := TX0) (N := 10) (v := .ref (al 7 2)) hx hb hts inX0 hown hK (c0_at hI) rfl 2 (by decide) (hts _ w_1_61) rfl rfl dX0_reservationNumbered_14 ?_
      refine lv_iload_n hx hb dX0_reservationNumbered_17 rfl (lv_at hl 1 rfl) ?_
      refine lv_iconst (v := 1) hx hb dX0_reservationNumbered_18 (by decide) ?_
      refine lv_isub hx hb dX0_reservationNumbered_19 ?_
      refine sx_aldq hx hb hK (c7_2_at hI) 4 rfl hin dX0_reservationNumbered_20 ?_
      rw [hci]
      refine W.eq (g2 := F0 m 21 ls (.ref (al 4 i) :: [])) (congrArg (fun z => F0 m 21 ls (va_rf (Option.map (al 4) z) :: [])) (hg i hi)) ?_
      refine lv_goto (tgt := 25) hx hb dX0_reservationNumbered_21 (by decide) ?_
      exact W.aret (v := .ref (al 4 i)) hx hb hr (Or.inl ⟨_, rfl⟩) (Or.inr ⟨_, rfl⟩) (fun t ht hW => ⟨(some (al 4 i)), rfl, (Or.inl ⟨i, hi, ex, rfl⟩), ht⟩) (fun q h => by cases h) dX0_reservationNumbered_25

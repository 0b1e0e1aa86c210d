set_option maxHeartbeats 4000000 in
set_option maxRecDepth 100000 in
theorem i_Share (l : Launch) (D : va_G) (dA : Nat → ClassId) (sa : Nat → Nat) (lo a sz : Nat) (u d : Int32) : Met l yX2_init wsX2_init ({ frames := 1, cells := 0, slots := 0, locals := 12 }) (va_Pc [.ref a, .int u, .int d] (rwP D dA sa lo sz [(a, .inr (2, [.int 0, .int 0]))])) (va_Qv (fun _ : Unit => True) (rwQ D sz [(a, .inr (2, [.int u, .int d]))]) (fun q => q = a)) 0 0 (fun q => q = a) := by
  refine Met.ofW (cc := cX2_init) (maxL := 3) (ret := none) (by decide) rfl ?_
  intro p e s m args below meth c s₁ B hml hv
  obtain ⟨rfl, ⟨hz, hP0⟩, hwd⟩ := hv
  have hx := B.exec
  have hb := B.bytes
  have hr := B.returns
  have hts : ∀ w ∈ WSall, w.before _ s = true := fun w h => atoms_spec (ws := wsX2_init) B.pre w (List.mem_cons_of_mem _ h)
  have hown : s.vm.findClass RX2 = some m.cls := findClass_of_methodNamed B.named
  have hlocks := B.notSynchronized
  have hK := hwd.1
  have hin2 : meth.name = "<init>" := (name_of_methodNamed B.named B.method).1
  have hS : va_S (fun q => q = a) s.heap s.heap [] := va_S.rf
  have h_0 := rw_get hP0 0 rfl
  have hl := lv_entry ([.ref a, .int u, .int d]) (n := 3) (Nat.le_of_ble_eq_true rfl)
  rw [lg_entry_eq]
  generalize (lg_sl ([.ref a, .int u, .int d]) ++ List.replicate (3 - (lg_sl ([.ref a, .int u, .int d])).length) Slot.unset).toArray = ls at hl ⊢
  have hl : lv_has ls 3 [(0, .ref a), (1, .int u), (2, .int d)] := hl
  refine lv_aload_n hx hb dX2_init_0 rfl (lv_at hl 0 rfl) ?_
  refine W.objInit hx hb hown (hts _ w_2_41) (hts _ w_1_20) (hts _ w_1_21) rfl (by rw [hml]; exact hl.1) rfl dX2_init_1 (Nat.le_of_ble_eq_true rfl) (Nat.le_of_ble_eq_true rfl) ?_
  refine W.eq (g2 := F0 m 4 ls []) rfl ?_
  refine lv_aload_n hx hb dX2_init_4 rfl (lv_at hl 0 rfl) ?_
  refine lv_iload_n hx hb dX2_init_5 rfl (lv_at hl 1 rfl) ?_
  refine sx_putF (ci := 2) (v := .int u) (ty := .int) (C := RX2) (T := TX2) (N := 2) hx hb hts inX2 tyX2 okX2 nmX2 hown hK hS h_0 rfl rfl 0 (by decide) (hts _ w_2_42) rfl rfl hin2 rfl (by decide +kernel) rfl rfl (Nat.le_of_ble_eq_true rfl) dX2_init_6 (fun H locs hq => ?_)
  obtain ⟨h_0, hzz, ho, hS⟩ := hq
  have h_0 : va_at D vwCl (a, .inr (2, [.int u, .int 0])) H := h_0
  have hz := hzz.trans hz
  refine lv_aload_n hx hb dX2_init_9 rfl (lv_at hl 0 rfl) ?_
  refine lv_iload_n hx hb dX2_init_10 rfl (lv_at hl 2 rfl) ?_
  refine sx_putF (ci := 2) (v := .int d) (ty := .int) (C := RX2) (T := TX2) (N := 2) hx hb hts inX2 tyX2 okX2 nmX2 hown hK hS h_0 rfl rfl 1 (by decide) (hts _ w_2_43) rfl rfl hin2 rfl (by decide +kernel) rfl rfl (Nat.le_of_ble_eq_true rfl) dX2_init_11 (fun H locs hq => ?_)
  obtain ⟨h_0, hzz, ho, hS⟩ := hq
  have h_0 : va_at D vwCl (a, .inr (2, [.int u, .int d])) H := h_0
  have hz := hzz.trans hz
  exact W.vret hx hb hr (fun t ht hW => ⟨⟨(), rfl, trivial, by rw [ht]; exact hz, by rw [ht]; exact (rw_cons h_0 rw_nil)⟩, hS.F ht⟩) hS.2.2 dX2_init_14

set_option maxHeartbeats 4000000 in
set_option maxRecDepth 100000 in
theorem i_Interest (l : Launch) (D : va_G) (dA : Nat → ClassId) (sa : Nat → Nat) (lo a sz : Nat) (rt day : Int32) : Met l yX3_init wsX3_init ({ frames := 1, cells := 0, slots := 0, locals := 12 }) (va_Pc [.ref a, .int rt, .int day] (rwP D dA sa lo sz [(a, .inr (3, [.int 0, .long 0, .int 0, .int 0]))])) (va_Qv (fun _ : Unit => True) (rwQ D sz [(a, .inr (3, [.int rt, .long 0, .int day, .int 0]))]) (fun q => q = a)) 0 0 (fun q => q = a) := by
  refine Met.ofW (cc := cX3_init) (maxL := 3) (ret := none) (by decide) rfl ?_
  intro p e s m args below meth c s₁ B hml hv
  obtain ⟨rfl, ⟨hz, hP0⟩, hwd⟩ := hv
  have hx := B.exec
  have hb := B.bytes
  have hr := B.returns
  have hts : ∀ w ∈ WSall, w.before _ s = true := fun w h => atoms_spec (ws := wsX3_init) B.pre w (List.mem_cons_of_mem _ h)
  have hown : s.vm.findClass RX3 = some m.cls := findClass_of_methodNamed B.named
  have hlocks := B.notSynchronized
  have hK := hwd.1
  have hin2 : meth.name = "<init>" := (name_of_methodNamed B.named B.method).1
  have hS : va_S (fun q => q = a) s.heap s.heap [] := va_S.rf
  have h_0 := rw_get hP0 0 rfl
  have hl := lv_entry ([.ref a, .int rt, .int day]) (n := 3) (Nat.le_of_ble_eq_true rfl)
  rw [lg_entry_eq]
  generalize (lg_sl ([.ref a, .int rt, .int day]) ++ List.replicate (3 - (lg_sl ([.ref a, .int rt, .int day])).length) Slot.unset).toArray = ls at hl ⊢
  have hl : lv_has ls 3 [(0, .ref a), (1, .int rt), (2, .int day)] := hl
  refine lv_aload_n hx hb dX3_init_0 rfl (lv_at hl 0 rfl) ?_
  refine W.objInit hx hb hown (hts _ w_2_54) (hts _ w_1_20) (hts _ w_1_21) rfl (by rw [hml]; exact hl.1) rfl dX3_init_1 (Nat.le_of_ble_eq_true rfl) (Nat.le_of_ble_eq_true rfl) ?_
  refine W.eq (g2 := F0 m 4 ls []) rfl ?_
  refine lv_aload_n hx hb dX3_init_4 rfl (lv_at hl 0 rfl) ?_
  refine lv_iload_n hx hb dX3_init_5 rfl (lv_at hl 1 rfl) ?_
  refine sx_putF (ci := 3) (v := .int rt) (ty := .int) (C := RX3) (T := TX3) (N := 4) hx hb hts inX3 tyX3 okX3 nmX3 hown hK hS h_0 rfl rfl 0 (by decide) (hts _ w_2_55) rfl rfl hin2 rfl (by decide +kernel) rfl rfl (Nat.le_of_ble_eq_true rfl) dX3_init_6 (fun H locs hq => ?_)
  obtain ⟨h_0, hzz, ho, hS⟩ := hq
  have h_0 : va_at D vwCl (a, .inr (3, [.int rt, .long 0, .int 0, .int 0])) H := h_0
  have hz := hzz.trans hz
  refine lv_aload_n hx hb dX3_init_9 rfl (lv_at hl 0 rfl) ?_
  refine lv_iload_n hx hb dX3_init_10 rfl (lv_at hl 2 rfl) ?_
  refine sx_put (ci := 3) (v := .int day) (ty := .int) (C := RX3) (T := TX3) (N := 4) hx hb hts inX3 tyX3 okX3 nmX3 hown hK hS h_0 rfl rfl 2 (by decide) (hts _ w_2_57) rfl rfl (by decide +kernel) rfl rfl (Nat.le_of_ble_eq_true rfl) dX3_init_11 (fun H locs hq => ?_)
  obtain ⟨h_0, hzz, ho, hS⟩ := hq
  have h_0 : va_at D vwCl (a, .inr (3, [.int rt, .long 0, .int day, .int 0])) H := h_0
  have hz := hzz.trans hz
  exact W.vret hx hb hr (fun t ht hW => ⟨⟨(), rfl, trivial, by rw [ht]; exact hz, by rw [ht]; exact (rw_cons h_0 rw_nil)⟩, hS.F ht⟩) hS.2.2 dX3_init_14

set_option maxHeartbeats 4000000 in
set_option maxRecDepth 100000 in
theorem i_Guarantee (l : Launch) (D : va_G) (dA : Nat → ClassId) (sa : Nat → Nat) (lo a sz : Nat) (num h : Int32) (am : Int64) (b2 b3 : Nat) (one : Int32) (hon : one = 0 ∨ one = 1) : Met l yX1_init wsX1_init ({ frames := 1, cells := 0, slots := 0, locals := 12 }) (va_Pc [.ref a, .int num, .int h, .long am, .ref b2, .int one, .ref b3] (rwP D dA sa lo sz [(a, .inr (1, [.int 0, .int 0, .null, .int 0, .null, .long 0, .long 0, .long 0, .int 0, .int 0, .null]))])) (va_Qv (fun _ : Unit => True) (rwQ D sz [(a, .inr (1, [.int num, .int h, .ref b2, .int one, .ref b3, .long am, .long 0, .long 0, .int 0, .int 0, .null]))]) (fun q => q = a)) 0 0 (fun q => q = a) := by
  refine Met.ofW (cc := cX1_init) (maxL := 8) (ret := none) (by decide) rfl ?_
  intro p e s m args below meth c s₁ B hml hv
  obtain ⟨rfl, ⟨hz, hP0⟩, hwd⟩ := hv
  have hx := B.exec
  have hb := B.bytes
  have hr := B.returns
  have hts : ∀ w ∈ WSall, w.before _ s = true := fun w h => atoms_spec (ws := wsX1_init) B.pre w (List.mem_cons_of_mem _ h)
  have hown : s.vm.findClass RX1 = some m.cls := findClass_of_methodNamed B.named
  have hlocks := B.notSynchronized
  have hK := hwd.1
  have hin2 : meth.name = "<init>" := (name_of_methodNamed B.named B.method).1
  have hS : va_S (fun q => q = a) s.heap s.heap [] := va_S.rf
  have h_0 := rw_get hP0 0 rfl
  have hl := lv_entry ([.ref a, .int num, .int h, .long am, .ref b2, .int one, .ref b3]) (n := 8) (Nat.le_of_ble_eq_true rfl)
  rw [lg_entry_eq]
  generalize (lg_sl ([.ref a, .int num, .int h, .long am, .ref b2, .int one, .ref b3]) ++ List.replicate (8 - (lg_sl ([.ref a, .int num, .int h, .long am, .ref b2, .int one, .ref b3])).length) Slot.unset).toArray = ls at hl ⊢
  have hl : lv_has ls 8 [(0, .ref a), (1, .int num), (2, .int h), (3, .long am), (5, .ref b2), (6, .int one), (7, .ref b3)] := hl
  refine lv_aload_n hx hb dX1_init_0 rfl (lv_at hl 0 rfl) ?_
  refine W.objInit hx hb hown (hts _ w_2_71) (hts _ w_1_20) (hts _ w_1_21) rfl (by rw [hml]; exact hl.1) rfl dX1_init_1 (Nat.le_of_ble_eq_true rfl) (Nat.le_of_ble_eq_true rfl) ?_
  refine W.eq (g2 := F0 m 4 ls []) rfl ?_
  refine lv_aload_n hx hb dX1_init_4 rfl (lv_at hl 0 rfl) ?_
  refine lv_iload_n hx hb dX1_init_5 rfl (lv_at hl 1 rfl) ?_
  refine sx_putF (ci := 1) (v := .int num) (ty := .int) (C := RX1) (T := TX1) (N := 11) hx hb hts inX1 tyX1 okX1 nmX1 hown hK hS h_0 rfl rfl 0 (by decide) (hts _ w_2_72) rfl rfl hin2 rfl (by decide +kernel) rfl rfl (Nat.le_of_ble_eq_true rfl) dX1_init_6 (fun H locs hq => ?_)
  obtain ⟨h_0, hzz, ho, hS⟩ := hq
  have h_0 : va_at D vwCl (a, .inr (1, [.int num, .int 0, .null, .int 0, .null, .long 0, .long 0, .long 0, .int 0, .int 0, .null])) H := h_0
  have hz := hzz.trans hz
  refine lv_aload_n hx hb dX1_init_9 rfl (lv_at hl 0 rfl) ?_
  refine lv_iload_n hx hb dX1_init_10 rfl (lv_at hl 2 rfl) ?_
  refine sx_putF (ci := 1) (v := .int h) (ty := .int) (C := RX1) (T := TX1) (N := 11) hx hb hts inX1 tyX1 okX1 nmX1 hown hK hS h_0 rfl rfl 1 (by decide) (hts _ w_2_75) rfl rfl hin2 rfl (by decide +kernel) rfl rfl (Nat.le_of_ble_eq_true rfl) dX1_init_11 (fun H locs hq => ?_)
  obtain ⟨h_0, hzz, ho, hS⟩ := hq
  have h_0 : va_at D vwCl (a, .inr (1, [.int num, .int h, .null, .int 0, .null, .long 0, .long 0, .long 0, .int 0, .int 0, .null])) H := h_0
  have hz := hzz.trans hz
  refine lv_aload_n hx hb dX1_init_14 rfl (lv_at hl 0 rfl) ?_
  refine lv_lload_n hx hb dX1_init_15 rfl (lv_at hl 3 rfl) ?_
  refine sx_put (ci := 1) (v := .long am) (ty := .long) (C := RX1) (T := TX1) (N := 11) hx hb hts inX1 tyX1 okX1 nmX1 hown hK hS h_0 rfl rfl 5 (by decide) (hts _ w_2_81) rfl rfl (by decide +kernel) rfl rfl (Nat.le_of_ble_eq_true rfl) dX1_init_16 (fun H locs hq => ?_)
  obtain ⟨h_0, hzz, ho, hS⟩ := hq
  have h_0 : va_at D vwCl (a, .inr (1, [.int num, .int h, .null, .int 0, .null, .long am, .long 0, .long 0, .int 0, .int 0, .null])) H := h_0
  have hz := hzz.trans hz
  refine lv_aload_n hx hb dX1_init_19 rfl (lv_at hl 0 rfl) ?_
  refine lv_aload hx hb dX1_init_20 (lv_at hl 4 rfl) ?_
  refine sx_putF (ci := 1) (v := .ref b2) (ty := .object "GuaranteeBook$Share") (C := RX1) (T := TX1) (N := 11) hx hb hts inX1 tyX1 okX1 nmX1 hown hK hS h_0 rfl rfl 2 (by decide) (hts _ w_2_77) rfl rfl hin2 rfl (by decide +kernel) rfl rfl (Nat.le_of_ble_eq_true rfl) dX1_init_22 (fun H locs hq => ?_)
  obtain ⟨h_0, hzz, ho, hS⟩ := hq
  have h_0 : va_at D vwCl (a, .inr (1, [.int num, .int h, .ref b2, .int 0, .null, .long am, .long 0, .long 0, .int 0, .int 0, .null])) H := h_0
  have hz := hzz.trans hz
  refine lv_aload_n hx hb dX1_init_25 rfl (lv_at hl 0 rfl) ?_
  refine lv_iload hx hb dX1_init_26 (lv_at hl 5 rfl) ?_
  refine sx_putF (ci := 1) (v := .int one) (ty := .boolean) (C := RX1) (T := TX1) (N := 11) hx hb hts inX1 tyX1 okX1 nmX1 hown hK hS h_0 rfl rfl 3 (by decide) (hts _ w_2_78) rfl rfl hin2 rfl (by decide +kernel) (by rcases hon with rfl | rfl <;> rfl) (by rcases hon with rfl | rfl <;> rfl) (Nat.le_of_ble_eq_true rfl) dX1_init_28 (fun H locs hq => ?_)
  obtain ⟨h_0, hzz, ho, hS⟩ := hq
  have h_0 : va_at D vwCl (a, .inr (1, [.int num, .int h, .ref b2, .int one, .null, .long am, .long 0, .long 0, .int 0, .int 0, .null])) H := h_0
  have hz := hzz.trans hz
  refine lv_aload_n hx hb dX1_init_31 rfl (lv_at hl 0 rfl) ?_
  refine lv_aload hx hb dX1_init_32 (lv_at hl 6 rfl) ?_
  refine sx_putF (ci := 1) (v := .ref b3) (ty := .object "GuaranteeBook$Interest") (C := RX1) (T := TX1) (N := 11) hx hb hts inX1 tyX1 okX1 nmX1 hown hK hS h_0 rfl rfl 4 (by decide) (hts _ w_2_79) rfl rfl hin2 rfl (by decide +kernel) rfl rfl (Nat.le_of_ble_eq_true rfl) dX1_init_34 (fun H locs hq => ?_)
  obtain ⟨h_0, hzz, ho, hS⟩ := hq
  have h_0 : va_at D vwCl (a, .inr (1, [.int num, .int h, .ref b2, .int one, .ref b3, .long am, .long 0, .long 0, .int 0, .int 0, .null])) H := h_0
  have hz := hzz.trans hz
  exact W.vret hx hb hr (fun t ht hW => ⟨⟨(), rfl, trivial, by rw [ht]; exact hz, by rw [ht]; exact (rw_cons h_0 rw_nil)⟩, hS.F ht⟩) hS.2.2 dX1_init_37

set_option maxHeartbeats 4000000 in
set_option maxRecDepth 100000 in
theorem i_Reservation (l : Launch) (D : va_G) (dA : Nat → ClassId) (sa : Nat → Nat) (lo a sz : Nat) (hlo : lo ≤ a)  : Met l yX4_init wsX4_init ({ frames := 1, cells := 2, slots := 8, locals := 12 }) (va_Pc [.ref a] (rwP D dA sa lo sz [(a, .inr (4, [.null, .null, .int 0, .int 0, .long 0, .int 0]))])) (va_Qv (fun _ : Unit => True) (rwQ D (sz + 2) [(a, .inr (4, [.ref sz, .ref (sz + 1), .int 0, .int 0, .long 0, .int 0])), (sz, .inl (dA 3, 4, .inr (.inr (.inr (.inr (fun _ => none)))))), ((sz + 1), .inl (dA 1, 4, .inr (.inl (fun _ => 0))))]) (fun q => q = a ∨ sz ≤ q)) 2 8 (fun q => q = a ∨ sz ≤ q) := by
  refine Met.ofW (cc := cX4_init) (maxL := 1) (ret := none) (by decide) rfl ?_
  intro p e s m args below meth c s₁ B hml hv
  obtain ⟨rfl, ⟨hz, hP0⟩, hwd⟩ := hv
  have hx := B.exec
  have hb := B.bytes
  have hr := B.returns
  have hts : ∀ w ∈ WSall, w.before _ s = true := fun w h => atoms_spec (ws := wsX4_init) B.pre w (List.mem_cons_of_mem _ h)
  have hown : s.vm.findClass RX4 = some m.cls := findClass_of_methodNamed B.named
  have hlocks := B.notSynchronized
  have hK := hwd.1
  have hin2 : meth.name = "<init>" := (name_of_methodNamed B.named B.method).1
  have hS : va_S (fun q => q = a ∨ sz ≤ q) s.heap s.heap [] := va_S.rf
  have h_0 := rw_get hP0 0 rfl
  have ha : a < sz := by rw [← hz]; exact va_at.lt h_0
  have hlz : lo ≤ sz := by omega
  have hl := lv_entry ([.ref a]) (n := 1) (Nat.le_of_ble_eq_true rfl)
  rw [lg_entry_eq]
  generalize (lg_sl ([.ref a]) ++ List.replicate (1 - (lg_sl ([.ref a])).length) Slot.unset).toArray = ls at hl ⊢
  have hl : lv_has ls 1 [(0, .ref a)] := hl
  refine lv_aload_n hx hb dX4_init_0 rfl (lv_at hl 0 rfl) ?_
  refine W.objInit hx hb hown (hts _ w_1_30) (hts _ w_1_20) (hts _ w_1_21) rfl (by rw [hml]; exact hl.1) rfl dX4_init_1 (Nat.le_of_ble_eq_true rfl) (Nat.le_of_ble_eq_true rfl) ?_
  refine W.eq (g2 := F0 m 4 ls []) rfl ?_
  refine lv_aload_n hx hb dX4_init_4 rfl (lv_at hl 0 rfl) ?_
  refine lv_iconst (v := 4) hx hb dX4_init_5 (by decide) ?_
  refine sx_newq hx hb hown (hts _ w_1_31) (wd_ao3 hwd) hK hS 3 rfl (by decide) (show (4 : Int32).toNatClampNeg = 4 from rfl) (by decide) (Nat.le_of_ble_eq_true rfl) (Nat.le_of_ble_eq_true rfl) dX4_init_6 (fun q9 H hq => ?_)
  obtain ⟨hqq, hnew, hzz, hold, hS⟩ := hq
  rw [hz] at hqq
  subst q9
  have h_0 := va_at.kept h_0 (hold _ (va_at.lt h_0))
  have h_1 : va_at D vwCl (sz, .inl (dA 3, 4, .inr (.inr (.inr (.inr (fun _ => none)))))) H := hnew
  have hz : H.size = sz + 1 := by rw [hzz, hz]
  refine W.widen (k := 1) (n := 4) (Nat.le_of_ble_eq_true rfl) (Nat.le_of_ble_eq_true rfl) ?_
  refine sx_putF (ci := 4) (v := .ref sz) (ty := .array (.object "GuaranteeBook$Guarantee")) (C := RX4) (T := TX4) (N := 6) hx hb hts inX4 tyX4 okX4 nmX4 hown hK hS h_0 (Or.inl rfl) rfl 0 (by decide) (hts _ w_1_32) rfl rfl hin2 rfl (by decide +kernel) rfl rfl (Nat.le_of_ble_eq_true rfl) dX4_init_9 (fun H locs hq => ?_)
  obtain ⟨h_0, hzz, ho, hS⟩ := hq
  have h_0 : va_at D vwCl (a, .inr (4, [.ref sz, .null, .int 0, .int 0, .long 0, .int 0])) H := h_0
  have hz := hzz.trans hz
  have h_1 := va_at.kept h_1 (ho _ (by show _ ≠ a; omega))
  refine lv_aload_n hx hb dX4_init_12 rfl (lv_at hl 0 rfl) ?_
  refine lv_iconst (v := 4) hx hb dX4_init_13 (by decide) ?_
  refine sx_newa (atype := .long) (a0 := (4, .inr (.inl (fun _ => 0)))) hx hb (hts _ w_1_58) rfl hK hS 1 rfl (fun _ h => by cases h) (by first | exact vp_cell_l _ _ _ | rfl) (by decide) (show (4 : Int32).toNatClampNeg = 4 from rfl) (by decide) (Nat.le_of_ble_eq_true rfl) (Nat.le_of_ble_eq_true rfl) dX4_init_14 (fun q9 H hq => ?_)
  obtain ⟨hqq, hnew, hzz, hold, hS⟩ := hq
  rw [hz] at hqq
  subst q9
  have h_0 := va_at.kept h_0 (hold _ (va_at.lt h_0))
  have h_1 := va_at.kept h_1 (hold _ (va_at.lt h_1))
  have h_2 : va_at D vwCl ((sz + 1), .inl (dA 1, 4, .inr (.inl (fun _ => 0)))) H := hnew
  have hz : H.size = sz + 2 := by rw [hzz, hz]
  refine W.widen (k := 2) (n := 8) (Nat.le_of_ble_eq_true rfl) (Nat.le_of_ble_eq_true rfl) ?_
  refine sx_putF (ci := 4) (v := .ref (sz + 1)) (ty := .array (.long)) (C := RX4) (T := TX4) (N := 6) hx hb hts inX4 tyX4 okX4 nmX4 hown hK hS h_0 (Or.inl rfl) rfl 1 (by decide) (hts _ w_1_33) rfl rfl hin2 rfl (by decide +kernel) rfl rfl (Nat.le_of_ble_eq_true rfl) dX4_init_16 (fun H locs hq => ?_)
  obtain ⟨h_0, hzz, ho, hS⟩ := hq
  have h_0 : va_at D vwCl (a, .inr (4, [.ref sz, .ref (sz + 1), .int 0, .int 0, .long 0, .int 0])) H := h_0
  have hz := hzz.trans hz
  have h_1 := va_at.kept h_1 (ho _ (by show _ ≠ a; omega))
  have h_2 := va_at.kept h_2 (ho _ (by show _ ≠ a; omega))
  refine lv_aload_n hx hb dX4_init_19 rfl (lv_at hl 0 rfl) ?_
  refine lv_iconst (v := 0) hx hb dX4_init_20 (by decide) ?_
  refine sx_put (ci := 4) (v := .int 0) (ty := .int) (C := RX4) (T := TX4) (N := 6) hx hb hts inX4 tyX4 okX4 nmX4 hown hK hS h_0 (Or.inl rfl) rfl 5 (by decide) (hts _ w_1_41) rfl rfl (by decide +kernel) rfl rfl (Nat.le_of_ble_eq_true rfl) dX4_init_21 (fun H locs hq => ?_)
  obtain ⟨h_0, hzz, ho, hS⟩ := hq
  have h_0 : va_at D vwCl (a, .inr (4, [.ref sz, .ref (sz + 1), .int 0, .int 0, .long 0, .int 0])) H := h_0
  have hz := hzz.trans hz
  have h_1 := va_at.kept h_1 (ho _ (by show _ ≠ a; omega))
  have h_2 := va_at.kept h_2 (ho _ (by show _ ≠ a; omega))
  exact W.vret hx hb hr (fun t ht hW => ⟨⟨(), rfl, trivial, by rw [ht]; exact hz, by rw [ht]; exact (rw_cons h_0 (rw_cons h_1 (rw_cons h_2 rw_nil)))⟩, hS.F ht⟩) hS.2.2 dX4_init_24

set_option maxHeartbeats 4000000 in
set_option maxRecDepth 100000 in
theorem i_Book (l : Launch) (D : va_G) (dA : Nat → ClassId) (sa : Nat → Nat) (lo a sz : Nat) (hlo : lo ≤ a)  : Met l yX0_init wsX0_init ({ frames := 2, cells := 8, slots := 110, locals := 40 }) (va_Pc [.ref a] (rwP D dA sa lo sz [(a, .inr (0, [.null, .null, .null, .null, .null, .null, .int 0, .int 0, .int 0, .int 0]))])) (va_Qv (fun _ : Unit => True) (rwQ D (sz + 8) [(a, .inr (0, [.ref sz, .ref (sz + 1), .ref (sz + 2), .ref (sz + 3), .ref (sz + 4), .ref (sz + 5), .int 0, .int 0, .int 0, .int 0])), (sz, .inl (dA 3, 20, .inr (.inr (.inr (.inr (fun _ => none)))))), ((sz + 1), .inl (dA 3, 8, .inr (.inr (.inr (.inr (fun _ => none)))))), ((sz + 2), .inl (dA 4, 60, .inr (.inr (.inr (.inr (fun _ => none)))))), ((sz + 3), .inl (dA 2, 4, .inl (fun _ => 0))), ((sz + 4), .inl (dA 0, 4, .inl (fun _ => 0))), ((sz + 5), .inr (4, [.ref (sz + 6), .ref (sz + 6 + 1), .int 0, .int 0, .long 0, .int 0])), ((sz + 6), .inl (dA 3, 4, .inr (.inr (.inr (.inr (fun _ => none)))))), ((sz + 6 + 1), .inl (dA 1, 4, .inr (.inl (fun _ => 0))))]) (fun q => q = a ∨ sz ≤ q)) 8 110 (fun q => q = a ∨ sz ≤ q) := by
  refine Met.ofW (cc := cX0_init) (maxL := 1) (ret := none) (by decide) rfl ?_
  intro p e s m args below meth c s₁ B hml hv
  obtain ⟨rfl, ⟨hz, hP0⟩, hwd⟩ := hv
  have hx := B.exec
  have hb := B.bytes
  have hr := B.returns
  have hts : ∀ w ∈ WSall, w.before _ s = true := fun w h => atoms_spec (ws := wsX0_init) B.pre w (List.mem_cons_of_mem _ h)
  have hown : s.vm.findClass RX0 = some m.cls := findClass_of_methodNamed B.named
  have hlocks := B.notSynchronized
  have hK := hwd.1
  have hin2 : meth.name = "<init>" := (name_of_methodNamed B.named B.method).1
  have hS : va_S (fun q => q = a ∨ sz ≤ q) s.heap s.heap [] := va_S.rf
  have h_0 := rw_get hP0 0 rfl
  have ha : a < sz := by rw [← hz]; exact va_at.lt h_0
  have hlz : lo ≤ sz := by omega
  have hl := lv_entry ([.ref a]) (n := 1) (Nat.le_of_ble_eq_true rfl)
  rw [lg_entry_eq]
  generalize (lg_sl ([.ref a]) ++ List.replicate (1 - (lg_sl ([.ref a])).length) Slot.unset).toArray = ls at hl ⊢
  have hl : lv_has ls 1 [(0, .ref a)] := hl
  refine lv_aload_n hx hb dX0_init_0 rfl (lv_at hl 0 rfl) ?_
  refine W.objInit hx hb hown (hts _ w_1_19) (hts _ w_1_20) (hts _ w_1_21) rfl (by rw [hml]; exact hl.1) rfl dX0_init_1 (Nat.le_of_ble_eq_true rfl) (Nat.le_of_ble_eq_true rfl) ?_
  refine W.eq (g2 := F0 m 4 ls []) rfl ?_
  refine lv_aload_n hx hb dX0_init_4 rfl (lv_at hl 0 rfl) ?_
  refine lv_bipush (v := 20) hx hb dX0_init_5 (by decide) ?_
  refine sx_newq hx hb hown (hts _ w_1_22) (wd_ao3 hwd) hK hS 3 rfl (by decide) (show (20 : Int32).toNatClampNeg = 20 from rfl) (by decide) (Nat.le_of_ble_eq_true rfl) (Nat.le_of_ble_eq_true rfl) dX0_init_7 (fun q9 H hq => ?_)
  obtain ⟨hqq, hnew, hzz, hold, hS⟩ := hq
  rw [hz] at hqq
  subst q9
  have h_0 := va_at.kept h_0 (hold _ (va_at.lt h_0))
  have h_1 : va_at D vwCl (sz, .inl (dA 3, 20, .inr (.inr (.inr (.inr (fun _ => none)))))) H := hnew
  have hz : H.size = sz + 1 := by rw [hzz, hz]
  refine W.widen (k := 1) (n := 20) (Nat.le_of_ble_eq_true rfl) (Nat.le_of_ble_eq_true rfl) ?_
  refine sx_putF (ci := 0) (v := .ref sz) (ty := .array (.object "GuaranteeBook$Guarantee")) (C := RX0) (T := TX0) (N := 10) hx hb hts inX0 tyX0 okX0 nmX0 hown hK hS h_0 (Or.inl rfl) rfl 0 (by decide) (hts _ w_1_59) rfl rfl hin2 rfl (by decide +kernel) rfl rfl (Nat.le_of_ble_eq_true rfl) dX0_init_10 (fun H locs hq => ?_)
  obtain ⟨h_0, hzz, ho, hS⟩ := hq
  have h_0 : va_at D vwCl (a, .inr (0, [.ref sz, .null, .null, .null, .null, .null, .int 0, .int 0, .int 0, .int 0])) H := h_0
  have hz := hzz.trans hz
  have h_1 := va_at.kept h_1 (ho _ (by show _ ≠ a; omega))
  refine lv_aload_n hx hb dX0_init_13 rfl (lv_at hl 0 rfl) ?_
  refine lv_bipush (v := 8) hx hb dX0_init_14 (by decide) ?_
  refine sx_newq hx hb hown (hts _ w_1_22) (wd_ao3 hwd) hK hS 3 rfl (by decide) (show (8 : Int32).toNatClampNeg = 8 from rfl) (by decide) (Nat.le_of_ble_eq_true rfl) (Nat.le_of_ble_eq_true rfl) dX0_init_16 (fun q9 H hq => ?_)
  obtain ⟨hqq, hnew, hzz, hold, hS⟩ := hq
  rw [hz] at hqq
  subst q9
  have h_0 := va_at.kept h_0 (hold _ (va_at.lt h_0))
  have h_1 := va_at.kept h_1 (hold _ (va_at.lt h_1))
  have h_2 : va_at D vwCl ((sz + 1), .inl (dA 3, 8, .inr (.inr (.inr (.inr (fun _ => none)))))) H := hnew
  have hz : H.size = sz + 2 := by rw [hzz, hz]
  refine W.widen (k := 2) (n := 28) (Nat.le_of_ble_eq_true rfl) (Nat.le_of_ble_eq_true rfl) ?_
  refine sx_putF (ci := 0) (v := .ref (sz + 1)) (ty := .array (.object "GuaranteeBook$Guarantee")) (C := RX0) (T := TX0) (N := 10) hx hb hts inX0 tyX0 okX0 nmX0 hown hK hS h_0 (Or.inl rfl) rfl 1 (by decide) (hts _ w_1_60) rfl rfl hin2 rfl (by decide +kernel) rfl rfl (Nat.le_of_ble_eq_true rfl) dX0_init_19 (fun H locs hq => ?_)
  obtain ⟨h_0, hzz, ho, hS⟩ := hq
  have h_0 : va_at D vwCl (a, .inr (0, [.ref sz, .ref (sz + 1), .null, .null, .null, .null, .int 0, .int 0, .int 0, .int 0])) H := h_0
  have hz := hzz.trans hz
  have h_1 := va_at.kept h_1 (ho _ (by show _ ≠ a; omega))
  have h_2 := va_at.kept h_2 (ho _ (by show _ ≠ a; omega))
  refine lv_aload_n hx hb dX0_init_22 rfl (lv_at hl 0 rfl) ?_
  refine lv_bipush (v := 60) hx hb dX0_init_23 (by decide) ?_
  refine sx_newq hx hb hown (hts _ w_1_24) (wd_ao4 hwd) hK hS 4 rfl (by decide) (show (60 : Int32).toNatClampNeg = 60 from rfl) (by decide) (Nat.le_of_ble_eq_true rfl) (Nat.le_of_ble_eq_true rfl) dX0_init_25 (fun q9 H hq => ?_)
  obtain ⟨hqq, hnew, hzz, hold, hS⟩ := hq
  rw [hz] at hqq
  subst q9
  have h_0 := va_at.kept h_0 (hold _ (va_at.lt h_0))
  have h_1 := va_at.kept h_1 (hold _ (va_at.lt h_1))
  have h_2 := va_at.kept h_2 (hold _ (va_at.lt h_2))
  have h_3 : va_at D vwCl ((sz + 2), .inl (dA 4, 60, .inr (.inr (.inr (.inr (fun _ => none)))))) H := hnew
  have hz : H.size = sz + 3 := by rw [hzz, hz]
  refine W.widen (k := 3) (n := 88) (Nat.le_of_ble_eq_true rfl) (Nat.le_of_ble_eq_true rfl) ?_
  refine sx_putF (ci := 0) (v := .ref (sz + 2)) (ty := .array (.object "GuaranteeBook$Reservation")) (C := RX0) (T := TX0) (N := 10) hx hb hts inX0 tyX0 okX0 nmX0 hown hK hS h_0 (Or.inl rfl) rfl 2 (by decide) (hts _ w_1_61) rfl rfl hin2 rfl (by decide +kernel) rfl rfl (Nat.le_of_ble_eq_true rfl) dX0_init_28 (fun H locs hq => ?_)
  obtain ⟨h_0, hzz, ho, hS⟩ := hq
  have h_0 : va_at D vwCl (a, .inr (0, [.ref sz, .ref (sz + 1), .ref (sz + 2), .null, .null, .null, .int 0, .int 0, .int 0, .int 0])) H := h_0
  have hz := hzz.trans hz
  have h_1 := va_at.kept h_1 (ho _ (by show _ ≠ a; omega))
  have h_2 := va_at.kept h_2 (ho _ (by show _ ≠ a; omega))
  have h_3 := va_at.kept h_3 (ho _ (by show _ ≠ a; omega))
  refine lv_aload_n hx hb dX0_init_31 rfl (lv_at hl 0 rfl) ?_
  refine lv_iconst (v := 4) hx hb dX0_init_32 (by decide) ?_
  refine sx_newa (atype := .boolean) (a0 := (4, .inl (fun _ => 0))) hx hb (hts _ w_1_56) rfl hK hS 2 rfl (fun _ h => by cases h) (by first | exact vp_cell_i _ _ _ | rfl) (by decide) (show (4 : Int32).toNatClampNeg = 4 from rfl) (by decide) (Nat.le_of_ble_eq_true rfl) (Nat.le_of_ble_eq_true rfl) dX0_init_33 (fun q9 H hq => ?_)
  obtain ⟨hqq, hnew, hzz, hold, hS⟩ := hq
  rw [hz] at hqq
  subst q9
  have h_0 := va_at.kept h_0 (hold _ (va_at.lt h_0))
  have h_1 := va_at.kept h_1 (hold _ (va_at.lt h_1))
  have h_2 := va_at.kept h_2 (hold _ (va_at.lt h_2))
  have h_3 := va_at.kept h_3 (hold _ (va_at.lt h_3))
  have h_4 : va_at D vwCl ((sz + 3), .inl (dA 2, 4, .inl (fun _ => 0))) H := hnew
  have hz : H.size = sz + 4 := by rw [hzz, hz]
  refine W.widen (k := 4) (n := 92) (Nat.le_of_ble_eq_true rfl) (Nat.le_of_ble_eq_true rfl) ?_
  refine sx_putF (ci := 0) (v := .ref (sz + 3)) (ty := .array (.boolean)) (C := RX0) (T := TX0) (N := 10) hx hb hts inX0 tyX0 okX0 nmX0 hown hK hS h_0 (Or.inl rfl) rfl 3 (by decide) (hts _ w_1_62) rfl rfl hin2 rfl (by decide +kernel) rfl rfl (Nat.le_of_ble_eq_true rfl) dX0_init_35 (fun H locs hq => ?_)
  obtain ⟨h_0, hzz, ho, hS⟩ := hq
  have h_0 : va_at D vwCl (a, .inr (0, [.ref sz, .ref (sz + 1), .ref (sz + 2), .ref (sz + 3), .null, .null, .int 0, .int 0, .int 0, .int 0])) H := h_0
  have hz := hzz.trans hz
  have h_1 := va_at.kept h_1 (ho _ (by show _ ≠ a; omega))
  have h_2 := va_at.kept h_2 (ho _ (by show _ ≠ a; omega))
  have h_3 := va_at.kept h_3 (ho _ (by show _ ≠ a; omega))
  have h_4 := va_at.kept h_4 (ho _ (by show _ ≠ a; omega))
  refine lv_aload_n hx hb dX0_init_38 rfl (lv_at hl 0 rfl) ?_
  refine lv_iconst (v := 4) hx hb dX0_init_39 (by decide) ?_
  refine sx_newa (atype := .int) (a0 := (4, .inl (fun _ => 0))) hx hb (hts _ w_1_57) rfl hK hS 0 rfl (fun _ h => by cases h) (by first | exact vp_cell_i _ _ _ | rfl) (by decide) (show (4 : Int32).toNatClampNeg = 4 from rfl) (by decide) (Nat.le_of_ble_eq_true rfl) (Nat.le_of_ble_eq_true rfl) dX0_init_40 (fun q9 H hq => ?_)
  obtain ⟨hqq, hnew, hzz, hold, hS⟩ := hq
  rw [hz] at hqq
  subst q9
  have h_0 := va_at.kept h_0 (hold _ (va_at.lt h_0))
  have h_1 := va_at.kept h_1 (hold _ (va_at.lt h_1))
  have h_2 := va_at.kept h_2 (hold _ (va_at.lt h_2))
  have h_3 := va_at.kept h_3 (hold _ (va_at.lt h_3))
  have h_4 := va_at.kept h_4 (hold _ (va_at.lt h_4))
  have h_5 : va_at D vwCl ((sz + 4), .inl (dA 0, 4, .inl (fun _ => 0))) H := hnew
  have hz : H.size = sz + 5 := by rw [hzz, hz]
  refine W.widen (k := 5) (n := 96) (Nat.le_of_ble_eq_true rfl) (Nat.le_of_ble_eq_true rfl) ?_
  refine sx_putF (ci := 0) (v := .ref (sz + 4)) (ty := .array (.int)) (C := RX0) (T := TX0) (N := 10) hx hb hts inX0 tyX0 okX0 nmX0 hown hK hS h_0 (Or.inl rfl) rfl 4 (by decide) (hts _ w_1_63) rfl rfl hin2 rfl (by decide +kernel) rfl rfl (Nat.le_of_ble_eq_true rfl) dX0_init_42 (fun H locs hq => ?_)
  obtain ⟨h_0, hzz, ho, hS⟩ := hq
  have h_0 : va_at D vwCl (a, .inr (0, [.ref sz, .ref (sz + 1), .ref (sz + 2), .ref (sz + 3), .ref (sz + 4), .null, .int 0, .int 0, .int 0, .int 0])) H := h_0
  have hz := hzz.trans hz
  have h_1 := va_at.kept h_1 (ho _ (by show _ ≠ a; omega))
  have h_2 := va_at.kept h_2 (ho _ (by show _ ≠ a; omega))
  have h_3 := va_at.kept h_3 (ho _ (by show _ ≠ a; omega))
  have h_4 := va_at.kept h_4 (ho _ (by show _ ≠ a; omega))
  have h_5 := va_at.kept h_5 (ho _ (by show _ ≠ a; omega))
  refine lv_aload_n hx hb dX0_init_45 rfl (lv_at hl 0 rfl) ?_
  refine sx_new (ci := 4) (fs := [.null, .null, .int 0, .int 0, .long 0, .int 0]) (C := RX4) (T := TX4) (N := 6) hx hb hts inX4 tyX4 okX4 hown (hts _ w_1_24) (hts _ w_1_26) (hts _ w_1_2) hK hS rfl (by decide +kernel) (Nat.le_of_ble_eq_true rfl) (Nat.le_of_ble_eq_true rfl) dX0_init_46 (fun q9 H hq => ?_)
  obtain ⟨hqq, hnew, hzz, hold, hS⟩ := hq
  rw [hz] at hqq
  subst q9
  have h_0 := va_at.kept h_0 (hold _ (va_at.lt h_0))
  have h_1 := va_at.kept h_1 (hold _ (va_at.lt h_1))
  have h_2 := va_at.kept h_2 (hold _ (va_at.lt h_2))
  have h_3 := va_at.kept h_3 (hold _ (va_at.lt h_3))
  have h_4 := va_at.kept h_4 (hold _ (va_at.lt h_4))
  have h_5 := va_at.kept h_5 (hold _ (va_at.lt h_5))
  have h_6 : va_at D vwCl ((sz + 5), .inr (4, [.null, .null, .int 0, .int 0, .long 0, .int 0])) H := hnew
  have hz : H.size = sz + 6 := by rw [hzz, hz]
  refine W.widen (k := 6) (n := 102) (Nat.le_of_ble_eq_true rfl) (Nat.le_of_ble_eq_true rfl) ?_
  refine lv_dup hx hb dX0_init_49 rfl ?_
  refine va_callv (va_runIN (As := []) (rest := [.ref (sz + 5), .ref a]) ⟨hx, hb, hml, hown, hts⟩ (i_Reservation l D dA sa lo (sz + 5) (sz + 6) (by omega)) ⟨va_cnB 0 hts (gdI w_1_29) rfl rfl rfl (wd_n hwd (.methodLinkNest "GuaranteeBook" 32 ⟨"GuaranteeBook$Reservation", "<init>", "()V"⟩ "GuaranteeBook") (List.mem_of_getElem? (i := 0) rfl)) (hts _ w_1_2) (by decide +kernel) ⟨Nat.le_of_ble_eq_true rfl, Nat.le_of_ble_eq_true rfl⟩, rfl, hts _ w_1_28⟩ ⟨rw_bl, fun U hU hW => ⟨rfl, ⟨by rw [hU]; exact hz, by rw [hU]; exact rw_cons h_6 rw_nil⟩, wd_use hwd (sx_weak hS (fun q h => by rcases h with h | h <;> omega)) hU hW⟩⟩ rfl rfl hl.1 rfl (lv_room (Nat.le_of_ble_eq_true rfl)) dX0_init_50 ⟨Nat.le_of_ble_eq_true rfl, Nat.le_of_ble_eq_true rfl⟩) hS (fun (q : Nat) _ h => (by have h : q = (sz + 5) ∨ sz + 6 ≤ q := h; rcases h with h | h <;> exact Or.inr (by omega))) (fun (q : Nat) h => (by have h : q = (sz + 5) ∨ sz + 6 ≤ q := h; rcases h with h | h <;> exact Or.inr (by omega))) (fun u9 T9 H1 locs ht9 hvm9 e9 hB9 hz9 hk9 hS => ?_)
  obtain ⟨hz8, hP8⟩ := hB9
  rw [ht9] at hz8 hP8
  generalize H1 = H at hz8 hP8 hz9 hk9 hS ⊢
  have h_0 := va_at.kept h_0 (hk9 _ (va_at.lt h_0) (by show ¬ (_ = _ ∨ _ ≤ _); omega))
  have h_1 := va_at.kept h_1 (hk9 _ (va_at.lt h_1) (by show ¬ (_ = _ ∨ _ ≤ _); omega))
  have h_2 := va_at.kept h_2 (hk9 _ (va_at.lt h_2) (by show ¬ (_ = _ ∨ _ ≤ _); omega))
  have h_3 := va_at.kept h_3 (hk9 _ (va_at.lt h_3) (by show ¬ (_ = _ ∨ _ ≤ _); omega))
  have h_4 := va_at.kept h_4 (hk9 _ (va_at.lt h_4) (by show ¬ (_ = _ ∨ _ ≤ _); omega))
  have h_5 := va_at.kept h_5 (hk9 _ (va_at.lt h_5) (by show ¬ (_ = _ ∨ _ ≤ _); omega))
  have h_6 := rw_get hP8 0 rfl
  have h_7 := rw_get hP8 1 rfl
  have h_8 := rw_get hP8 2 rfl
  have hz : H.size = sz + 8 := hz8
  refine W.widen (k := 8) (n := 110) (Nat.le_of_ble_eq_true rfl) (Nat.le_of_ble_eq_true rfl) ?_
  refine sx_put (ci := 0) (v := .ref (sz + 5)) (ty := .object "GuaranteeBook$Reservation") (C := RX0) (T := TX0) (N := 10) hx hb hts inX0 tyX0 okX0 nmX0 hown hK hS h_0 (Or.inl rfl) rfl 5 (by decide) (hts _ w_1_64) rfl rfl (by decide +kernel) rfl rfl (Nat.le_of_ble_eq_true rfl) dX0_init_53 (fun H locs hq => ?_)
  obtain ⟨h_0, hzz, ho, hS⟩ := hq
  have h_0 : va_at D vwCl (a, .inr (0, [.ref sz, .ref (sz + 1), .ref (sz + 2), .ref (sz + 3), .ref (sz + 4), .ref (sz + 5), .int 0, .int 0, .int 0, .int 0])) H := h_0
  have hz := hzz.trans hz
  have h_1 := va_at.kept h_1 (ho _ (by show _ ≠ a; omega))
  have h_2 := va_at.kept h_2 (ho _ (by show _ ≠ a; omega))
  have h_3 := va_at.kept h_3 (ho _ (by show _ ≠ a; omega))
  have h_4 := va_at.kept h_4 (ho _ (by show _ ≠ a; omega))
  have h_5 := va_at.kept h_5 (ho _ (by show _ ≠ a; omega))
  have h_6 := va_at.kept h_6 (ho _ (by show _ ≠ a; omega))
  have h_7 := va_at.kept h_7 (ho _ (by show _ ≠ a; omega))
  have h_8 := va_at.kept h_8 (ho _ (by show _ ≠ a; omega))
  exact W.vret hx hb hr (fun t ht hW => ⟨⟨(), rfl, trivial, by rw [ht]; exact hz, by rw [ht]; exact (rw_cons h_0 (rw_cons h_1 (rw_cons h_2 (rw_cons h_3 (rw_cons h_4 (rw_cons h_5 (rw_cons h_6 (rw_cons h_7 (rw_cons h_8 rw_nil)))))))))⟩, hS.F ht⟩) hS.2.2 dX0_init_56

set_option maxHeartbeats 4000000 in
set_option maxRecDepth 100000 in
theorem i_Model (l : Launch) (D : va_G) (dA : Nat → ClassId) (sa : Nat → Nat) (lo a sz : Nat) (hlo : lo ≤ a)  : Met l yX5_init wsX5_init ({ frames := 1, cells := 20, slots := 991, locals := 12 }) (va_Pc [.ref a] (rwP D dA sa lo sz [(a, .inr (5, [.int 0, .int 0, .int 0, .null, .null, .null, .null, .null, .null, .null, .null, .null, .null, .null, .null, .int 0, .null, .null, .null, .null, .null, .null, .null, .null]))])) (va_Qv (fun _ : Unit => True) (rwQ D (sz + 20) [(a, .inr (5, [.int 0, .int 0, .int 0, .ref sz, .ref (sz + 1), .ref (sz + 2), .ref (sz + 3), .ref (sz + 4), .ref (sz + 5), .ref (sz + 6), .ref (sz + 7), .ref (sz + 8), .ref (sz + 9), .ref (sz + 10), .ref (sz + 11), .int 0, .ref (sz + 12), .ref (sz + 13), .ref (sz + 14), .ref (sz + 15), .ref (sz + 16), .ref (sz + 17), .ref (sz + 18), .ref (sz + 19)])), (sz, .inl (dA 0, 21, .inl (fun _ => 0))), ((sz + 1), .inl (dA 1, 21, .inr (.inl (fun _ => 0)))), ((sz + 2), .inl (dA 0, 21, .inl (fun _ => 0))), ((sz + 3), .inl (dA 0, 21, .inl (fun _ => 0))), ((sz + 4), .inl (dA 2, 21, .inl (fun _ => 0))), ((sz + 5), .inl (dA 0, 21, .inl (fun _ => 0))), ((sz + 6), .inl (dA 2, 21, .inl (fun _ => 0))), ((sz + 7), .inl (dA 0, 21, .inl (fun _ => 0))), ((sz + 8), .inl (dA 1, 21, .inr (.inl (fun _ => 0)))), ((sz + 9), .inl (dA 1, 21, .inr (.inl (fun _ => 0)))), ((sz + 10), .inl (dA 0, 21, .inl (fun _ => 0))), ((sz + 11), .inl (dA 0, 20, .inl (fun _ => 0))), ((sz + 12), .inl (dA 0, 61, .inl (fun _ => 0))), ((sz + 13), .inl (dA 1, 61, .inr (.inl (fun _ => 0)))), ((sz + 14), .inl (dA 0, 61, .inl (fun _ => 0))), ((sz + 15), .inl (dA 0, 61, .inl (fun _ => 0))), ((sz + 16), .inl (dA 0, 244, .inl (fun _ => 0))), ((sz + 17), .inl (dA 1, 244, .inr (.inl (fun _ => 0)))), ((sz + 18), .inl (dA 2, 4, .inl (fun _ => 0))), ((sz + 19), .inl (dA 0, 4, .inl (fun _ => 0)))]) (fun q => q = a ∨ sz ≤ q)) 20 991 (fun q => q = a ∨ sz ≤ q) := by
  refine Met.ofW (cc := cX5_init) (maxL := 1) (ret := none) (by decide) rfl ?_
  intro p e s m args below meth c s₁ B hml hv
  obtain ⟨rfl, ⟨hz, hP0⟩, hwd⟩ := hv
  have hx := B.exec
  have hb := B.bytes
  have hr := B.returns
  have hts : ∀ w ∈ WSall, w.before _ s = true := fun w h => atoms_spec (ws := wsX5_init) B.pre w (List.mem_cons_of_mem _ h)
  have hown : s.vm.findClass RX5 = some m.cls := findClass_of_methodNamed B.named
  have hlocks := B.notSynchronized
  have hK := hwd.1
  have hin2 : meth.name = "<init>" := (name_of_methodNamed B.named B.method).1
  have hS : va_S (fun q => q = a ∨ sz ≤ q) s.heap s.heap [] := va_S.rf
  have h_0 := rw_get hP0 0 rfl
  have ha : a < sz := by rw [← hz]; exact va_at.lt h_0
  have hlz : lo ≤ sz := by omega
  have hl := lv_entry ([.ref a]) (n := 1) (Nat.le_of_ble_eq_true rfl)
  rw [lg_entry_eq]
  generalize (lg_sl ([.ref a]) ++ List.replicate (1 - (lg_sl ([.ref a])).length) Slot.unset).toArray = ls at hl ⊢
  have hl : lv_has ls 1 [(0, .ref a)] := hl
  refine lv_aload_n hx hb dX5_init_0 rfl (lv_at hl 0 rfl) ?_
  refine W.objInit hx hb hown (hts _ w_3_35) (hts _ w_1_20) (hts _ w_1_21) rfl (by rw [hml]; exact hl.1) rfl dX5_init_1 (Nat.le_of_ble_eq_true rfl) (Nat.le_of_ble_eq_true rfl) ?_
  refine W.eq (g2 := F0 m 4 ls []) rfl ?_
  refine lv_aload_n hx hb dX5_init_4 rfl (lv_at hl 0 rfl) ?_
  refine lv_bipush (v := 21) hx hb dX5_init_5 (by decide) ?_
  refine sx_newa (atype := .int) (a0 := (21, .inl (fun _ => 0))) hx hb (hts _ w_1_57) rfl hK hS 0 rfl (fun _ h => by cases h) (by first | exact vp_cell_i _ _ _ | rfl) (by decide) (show (21 : Int32).toNatClampNeg = 21 from rfl) (by decide) (Nat.le_of_ble_eq_true rfl) (Nat.le_of_ble_eq_true rfl) dX5_init_7 (fun q9 H hq => ?_)
  obtain ⟨hqq, hnew, hzz, hold, hS⟩ := hq
  rw [hz] at hqq
  subst q9
  have h_0 := va_at.kept h_0 (hold _ (va_at.lt h_0))
  have h_1 : va_at D vwCl (sz, .inl (dA 0, 21, .inl (fun _ => 0))) H := hnew
  have hz : H.size = sz + 1 := by rw [hzz, hz]
  refine W.widen (k := 1) (n := 21) (Nat.le_of_ble_eq_true rfl) (Nat.le_of_ble_eq_true rfl) ?_
  refine sx_putF (ci := 5) (v := .ref sz) (ty := .array (.int)) (C := RX5) (T := TX5) (N := 24) hx hb hts inX5 tyX5 okX5 nmX5 hown hK hS h_0 (Or.inl rfl) rfl 3 (by decide) (hts _ w_3_39) rfl rfl hin2 rfl (by decide +kernel) rfl rfl (Nat.le_of_ble_eq_true rfl) dX5_init_9 (fun H locs hq => ?_)
  obtain ⟨h_0, hzz, ho, hS⟩ := hq
  have h_0 : va_at D vwCl (a, .inr (5, [.int 0, .int 0, .int 0, .ref sz, .null, .null, .null, .null, .null, .null, .null, .null, .null, .null, .null, .int 0, .null, .null, .null, .null, .null, .null, .null, .null])) H := h_0
  have hz := hzz.trans hz
  have h_1 := va_at.kept h_1 (ho _ (by show _ ≠ a; omega))
  refine lv_aload_n hx hb dX5_init_12 rfl (lv_at hl 0 rfl) ?_
  refine lv_bipush (v := 21) hx hb dX5_init_13 (by decide) ?_
  refine sx_newa (atype := .long) (a0 := (21, .inr (.inl (fun _ => 0)))) hx hb (hts _ w_1_58) rfl hK hS 1 rfl (fun _ h => by cases h) (by first | exact vp_cell_l _ _ _ | rfl) (by decide) (show (21 : Int32).toNatClampNeg = 21 from rfl) (by decide) (Nat.le_of_ble_eq_true rfl) (Nat.le_of_ble_eq_true rfl) dX5_init_15 (fun q9 H hq => ?_)
  obtain ⟨hqq, hnew, hzz, hold, hS⟩ := hq
  rw [hz] at hqq
  subst q9
  have h_0 := va_at.kept h_0 (hold _ (va_at.lt h_0))
  have h_1 := va_at.kept h_1 (hold _ (va_at.lt h_1))
  have h_2 : va_at D vwCl ((sz + 1), .inl (dA 1, 21, .inr (.inl (fun _ => 0)))) H := hnew
  have hz : H.size = sz + 2 := by rw [hzz, hz]
  refine W.widen (k := 2) (n := 42) (Nat.le_of_ble_eq_true rfl) (Nat.le_of_ble_eq_true rfl) ?_
  refine sx_putF (ci := 5) (v := .ref (sz + 1)) (ty := .array (.long)) (C := RX5) (T := TX5) (N := 24) hx hb hts inX5 tyX5 okX5 nmX5 hown hK hS h_0 (Or.inl rfl) rfl 4 (by decide) (hts _ w_3_40) rfl rfl hin2 rfl (by decide +kernel) rfl rfl (Nat.le_of_ble_eq_true rfl) dX5_init_17 (fun H locs hq => ?_)
  obtain ⟨h_0, hzz, ho, hS⟩ := hq
  have h_0 : va_at D vwCl (a, .inr (5, [.int 0, .int 0, .int 0, .ref sz, .ref (sz + 1), .null, .null, .null, .null, .null, .null, .null, .null, .null, .null, .int 0, .null, .null, .null, .null, .null, .null, .null, .null])) H := h_0
  have hz := hzz.trans hz
  have h_1 := va_at.kept h_1 (ho _ (by show _ ≠ a; omega))
  have h_2 := va_at.kept h_2 (ho _ (by show _ ≠ a; omega))
  refine lv_aload_n hx hb dX5_init_20 rfl (lv_at hl 0 rfl) ?_
  refine lv_bipush (v := 21) hx hb dX5_init_21 (by decide) ?_
  refine sx_newa (atype := .int) (a0 := (21, .inl (fun _ => 0))) hx hb (hts _ w_1_57) rfl hK hS 0 rfl (fun _ h => by cases h) (by first | exact vp_cell_i _ _ _ | rfl) (by decide) (show (21 : Int32).toNatClampNeg = 21 from rfl) (by decide) (Nat.le_of_ble_eq_true rfl) (Nat.le_of_ble_eq_true rfl) dX5_init_23 (fun q9 H hq => ?_)
  obtain ⟨hqq, hnew, hzz, hold, hS⟩ := hq
  rw [hz] at hqq
  subst q9
  have h_0 := va_at.kept h_0 (hold _ (va_at.lt h_0))
  have h_1 := va_at.kept h_1 (hold _ (va_at.lt h_1))
  have h_2 := va_at.kept h_2 (hold _ (va_at.lt h_2))
  have h_3 : va_at D vwCl ((sz + 2), .inl (dA 0, 21, .inl (fun _ => 0))) H := hnew
  have hz : H.size = sz + 3 := by rw [hzz, hz]
  refine W.widen (k := 3) (n := 63) (Nat.le_of_ble_eq_true rfl) (Nat.le_of_ble_eq_true rfl) ?_
  refine sx_putF (ci := 5) (v := .ref (sz + 2)) (ty := .array (.int)) (C := RX5) (T := TX5) (N := 24) hx hb hts inX5 tyX5 okX5 nmX5 hown hK hS h_0 (Or.inl rfl) rfl 5 (by decide) (hts _ w_3_41) rfl rfl hin2 rfl (by decide +kernel) rfl rfl (Nat.le_of_ble_eq_true rfl) dX5_init_25 (fun H locs hq => ?_)
  obtain ⟨h_0, hzz, ho, hS⟩ := hq
  have h_0 : va_at D vwCl (a, .inr (5, [.int 0, .int 0, .int 0, .ref sz, .ref (sz + 1), .ref (sz + 2), .null, .null, .null, .null, .null, .null, .null, .null, .null, .int 0, .null, .null, .null, .null, .null, .null, .null, .null])) H := h_0
  have hz := hzz.trans hz
  have h_1 := va_at.kept h_1 (ho _ (by show _ ≠ a; omega))
  have h_2 := va_at.kept h_2 (ho _ (by show _ ≠ a; omega))
  have h_3 := va_at.kept h_3 (ho _ (by show _ ≠ a; omega))
  refine lv_aload_n hx hb dX5_init_28 rfl (lv_at hl 0 rfl) ?_
  refine lv_bipush (v := 21) hx hb dX5_init_29 (by decide) ?_
  refine sx_newa (atype := .int) (a0 := (21, .inl (fun _ => 0))) hx hb (hts _ w_1_57) rfl hK hS 0 rfl (fun _ h => by cases h) (by first | exact vp_cell_i _ _ _ | rfl) (by decide) (show (21 : Int32).toNatClampNeg = 21 from rfl) (by decide) (Nat.le_of_ble_eq_true rfl) (Nat.le_of_ble_eq_true rfl) dX5_init_31 (fun q9 H hq => ?_)
  obtain ⟨hqq, hnew, hzz, hold, hS⟩ := hq
  rw [hz] at hqq
  subst q9
  have h_0 := va_at.kept h_0 (hold _ (va_at.lt h_0))
  have h_1 := va_at.kept h_1 (hold _ (va_at.lt h_1))
  have h_2 := va_at.kept h_2 (hold _ (va_at.lt h_2))
  have h_3 := va_at.kept h_3 (hold _ (va_at.lt h_3))
  have h_4 : va_at D vwCl ((sz + 3), .inl (dA 0, 21, .inl (fun _ => 0))) H := hnew
  have hz : H.size = sz + 4 := by rw [hzz, hz]
  refine W.widen (k := 4) (n := 84) (Nat.le_of_ble_eq_true rfl) (Nat.le_of_ble_eq_true rfl) ?_
  refine sx_putF (ci := 5) (v := .ref (sz + 3)) (ty := .array (.int)) (C := RX5) (T := TX5) (N := 24) hx hb hts inX5 tyX5 okX5 nmX5 hown hK hS h_0 (Or.inl rfl) rfl 6 (by decide) (hts _ w_3_42) rfl rfl hin2 rfl (by decide +kernel) rfl rfl (Nat.le_of_ble_eq_true rfl) dX5_init_33 (fun H locs hq => ?_)
  obtain ⟨h_0, hzz, ho, hS⟩ := hq
  have h_0 : va_at D vwCl (a, .inr (5, [.int 0, .int 0, .int 0, .ref sz, .ref (sz + 1), .ref (sz + 2), .ref (sz + 3), .null, .null, .null, .null, .null, .null, .null, .null, .int 0, .null, .null, .null, .null, .null, .null, .null, .null])) H := h_0
  have hz := hzz.trans hz
  have h_1 := va_at.kept h_1 (ho _ (by show _ ≠ a; omega))
  have h_2 := va_at.kept h_2 (ho _ (by show _ ≠ a; omega))
  have h_3 := va_at.kept h_3 (ho _ (by show _ ≠ a; omega))
  have h_4 := va_at.kept h_4 (ho _ (by show _ ≠ a; omega))
  refine lv_aload_n hx hb dX5_init_36 rfl (lv_at hl 0 rfl) ?_
  refine lv_bipush (v := 21) hx hb dX5_init_37 (by decide) ?_
  refine sx_newa (atype := .boolean) (a0 := (21, .inl (fun _ => 0))) hx hb (hts _ w_1_56) rfl hK hS 2 rfl (fun _ h => by cases h) (by first | exact vp_cell_i _ _ _ | rfl) (by decide) (show (21 : Int32).toNatClampNeg = 21 from rfl) (by decide) (Nat.le_of_ble_eq_true rfl) (Nat.le_of_ble_eq_true rfl) dX5_init_39 (fun q9 H hq => ?_)
  obtain ⟨hqq, hnew, hzz, hold, hS⟩ := hq
  rw [hz] at hqq
  subst q9
  have h_0 := va_at.kept h_0 (hold _ (va_at.lt h_0))
  have h_1 := va_at.kept h_1 (hold _ (va_at.lt h_1))
  have h_2 := va_at.kept h_2 (hold _ (va_at.lt h_2))
  have h_3 := va_at.kept h_3 (hold _ (va_at.lt h_3))
  have h_4 := va_at.kept h_4 (hold _ (va_at.lt h_4))
  have h_5 : va_at D vwCl ((sz + 4), .inl (dA 2, 21, .inl (fun _ => 0))) H := hnew
  have hz : H.size = sz + 5 := by rw [hzz, hz]
  refine W.widen (k := 5) (n := 105) (Nat.le_of_ble_eq_true rfl) (Nat.le_of_ble_eq_true rfl) ?_
  refine sx_putF (ci := 5) (v := .ref (sz + 4)) (ty := .array (.boolean)) (C := RX5) (T := TX5) (N := 24) hx hb hts inX5 tyX5 okX5 nmX5 hown hK hS h_0 (Or.inl rfl) rfl 7 (by decide) (hts _ w_3_43) rfl rfl hin2 rfl (by decide +kernel) rfl rfl (Nat.le_of_ble_eq_true rfl) dX5_init_41 (fun H locs hq => ?_)
  obtain ⟨h_0, hzz, ho, hS⟩ := hq
  have h_0 : va_at D vwCl (a, .inr (5, [.int 0, .int 0, .int 0, .ref sz, .ref (sz + 1), .ref (sz + 2), .ref (sz + 3), .ref (sz + 4), .null, .null, .null, .null, .null, .null, .null, .int 0, .null, .null, .null, .null, .null, .null, .null, .null])) H := h_0
  have hz := hzz.trans hz
  have h_1 := va_at.kept h_1 (ho _ (by show _ ≠ a; omega))
  have h_2 := va_at.kept h_2 (ho _ (by show _ ≠ a; omega))
  have h_3 := va_at.kept h_3 (ho _ (by show _ ≠ a; omega))
  have h_4 := va_at.kept h_4 (ho _ (by show _ ≠ a; omega))
  have h_5 := va_at.kept h_5 (ho _ (by show _ ≠ a; omega))
  refine lv_aload_n hx hb dX5_init_44 rfl (lv_at hl 0 rfl) ?_
  refine lv_bipush (v := 21) hx hb dX5_init_45 (by decide) ?_
  refine sx_newa (atype := .int) (a0 := (21, .inl (fun _ => 0))) hx hb (hts _ w_1_57) rfl hK hS 0 rfl (fun _ h => by cases h) (by first | exact vp_cell_i _ _ _ | rfl) (by decide) (show (21 : Int32).toNatClampNeg = 21 from rfl) (by decide) (Nat.le_of_ble_eq_true rfl) (Nat.le_of_ble_eq_true rfl) dX5_init_47 (fun q9 H hq => ?_)
  obtain ⟨hqq, hnew, hzz, hold, hS⟩ := hq
  rw [hz] at hqq
  subst q9
  have h_0 := va_at.kept h_0 (hold _ (va_at.lt h_0))
  have h_1 := va_at.kept h_1 (hold _ (va_at.lt h_1))
  have h_2 := va_at.kept h_2 (hold _ (va_at.lt h_2))
  have h_3 := va_at.kept h_3 (hold _ (va_at.lt h_3))
  have h_4 := va_at.kept h_4 (hold _ (va_at.lt h_4))
  have h_5 := va_at.kept h_5 (hold _ (va_at.lt h_5))
  have h_6 : va_at D vwCl ((sz + 5), .inl (dA 0, 21, .inl (fun _ => 0))) H := hnew
  have hz : H.size = sz + 6 := by rw [hzz, hz]
  refine W.widen (k := 6) (n := 126) (Nat.le_of_ble_eq_true rfl) (Nat.le_of_ble_eq_true rfl) ?_
  refine sx_putF (ci := 5) (v := .ref (sz + 5)) (ty := .array (.int)) (C := RX5) (T := TX5) (N := 24) hx hb hts inX5 tyX5 okX5 nmX5 hown hK hS h_0 (Or.inl rfl) rfl 8 (by decide) (hts _ w_3_44) rfl rfl hin2 rfl (by decide +kernel) rfl rfl (Nat.le_of_ble_eq_true rfl) dX5_init_49 (fun H locs hq => ?_)
  obtain ⟨h_0, hzz, ho, hS⟩ := hq
  have h_0 : va_at D vwCl (a, .inr (5, [.int 0, .int 0, .int 0, .ref sz, .ref (sz + 1), .ref (sz + 2), .ref (sz + 3), .ref (sz + 4), .ref (sz + 5), .null, .null, .null, .null, .null, .null, .int 0, .null, .null, .null, .null, .null, .null, .null, .null])) H := h_0
  have hz := hzz.trans hz
  have h_1 := va_at.kept h_1 (ho _ (by show _ ≠ a; omega))
  have h_2 := va_at.kept h_2 (ho _ (by show _ ≠ a; omega))
  have h_3 := va_at.kept h_3 (ho _ (by show _ ≠ a; omega))
  have h_4 := va_at.kept h_4 (ho _ (by show _ ≠ a; omega))
  have h_5 := va_at.kept h_5 (ho _ (by show _ ≠ a; omega))
  have h_6 := va_at.kept h_6 (ho _ (by show _ ≠ a; omega))
  refine lv_aload_n hx hb dX5_init_52 rfl (lv_at hl 0 rfl) ?_
  refine lv_bipush (v := 21) hx hb dX5_init_53 (by decide) ?_
  refine sx_newa (atype := .boolean) (a0 := (21, .inl (fun _ => 0))) hx hb (hts _ w_1_56) rfl hK hS 2 rfl (fun _ h => by cases h) (by first | exact vp_cell_i _ _ _ | rfl) (by decide) (show (21 : Int32).toNatClampNeg = 21 from rfl) (by decide) (Nat.le_of_ble_eq_true rfl) (Nat.le_of_ble_eq_true rfl) dX5_init_55 (fun q9 H hq => ?_)
  obtain ⟨hqq, hnew, hzz, hold, hS⟩ := hq
  rw [hz] at hqq
  subst q9
  have h_0 := va_at.kept h_0 (hold _ (va_at.lt h_0))
  have h_1 := va_at.kept h_1 (hold _ (va_at.lt h_1))
  have h_2 := va_at.kept h_2 (hold _ (va_at.lt h_2))
  have h_3 := va_at.kept h_3 (hold _ (va_at.lt h_3))
  have h_4 := va_at.kept h_4 (hold _ (va_at.lt h_4))
  have h_5 := va_at.kept h_5 (hold _ (va_at.lt h_5))
  have h_6 := va_at.kept h_6 (hold _ (va_at.lt h_6))
  have h_7 : va_at D vwCl ((sz + 6), .inl (dA 2, 21, .inl (fun _ => 0))) H := hnew
  have hz : H.size = sz + 7 := by rw [hzz, hz]
  refine W.widen (k := 7) (n := 147) (Nat.le_of_ble_eq_true rfl) (Nat.le_of_ble_eq_true rfl) ?_
  refine sx_putF (ci := 5) (v := .ref (sz + 6)) (ty := .array (.boolean)) (C := RX5) (T := TX5) (N := 24) hx hb hts inX5 tyX5 okX5 nmX5 hown hK hS h_0 (Or.inl rfl) rfl 9 (by decide) (hts _ w_3_45) rfl rfl hin2 rfl (by decide +kernel) rfl rfl (Nat.le_of_ble_eq_true rfl) dX5_init_57 (fun H locs hq => ?_)
  obtain ⟨h_0, hzz, ho, hS⟩ := hq
  have h_0 : va_at D vwCl (a, .inr (5, [.int 0, .int 0, .int 0, .ref sz, .ref (sz + 1), .ref (sz + 2), .ref (sz + 3), .ref (sz + 4), .ref (sz + 5), .ref (sz + 6), .null, .null, .null, .null, .null, .int 0, .null, .null, .null, .null, .null, .null, .null, .null])) H := h_0
  have hz := hzz.trans hz
  have h_1 := va_at.kept h_1 (ho _ (by show _ ≠ a; omega))
  have h_2 := va_at.kept h_2 (ho _ (by show _ ≠ a; omega))
  have h_3 := va_at.kept h_3 (ho _ (by show _ ≠ a; omega))
  have h_4 := va_at.kept h_4 (ho _ (by show _ ≠ a; omega))
  have h_5 := va_at.kept h_5 (ho _ (by show _ ≠ a; omega))
  have h_6 := va_at.kept h_6 (ho _ (by show _ ≠ a; omega))
  have h_7 := va_at.kept h_7 (ho _ (by show _ ≠ a; omega))
  refine lv_aload_n hx hb dX5_init_60 rfl (lv_at hl 0 rfl) ?_
  refine lv_bipush (v := 21) hx hb dX5_init_61 (by decide) ?_
  refine sx_newa (atype := .int) (a0 := (21, .inl (fun _ => 0))) hx hb (hts _ w_1_57) rfl hK hS 0 rfl (fun _ h => by cases h) (by first | exact vp_cell_i _ _ _ | rfl) (by decide) (show (21 : Int32).toNatClampNeg = 21 from rfl) (by decide) (Nat.le_of_ble_eq_true rfl) (Nat.le_of_ble_eq_true rfl) dX5_init_63 (fun q9 H hq => ?_)
  obtain ⟨hqq, hnew, hzz, hold, hS⟩ := hq
  rw [hz] at hqq
  subst q9
  have h_0 := va_at.kept h_0 (hold _ (va_at.lt h_0))
  have h_1 := va_at.kept h_1 (hold _ (va_at.lt h_1))
  have h_2 := va_at.kept h_2 (hold _ (va_at.lt h_2))
  have h_3 := va_at.kept h_3 (hold _ (va_at.lt h_3))
  have h_4 := va_at.kept h_4 (hold _ (va_at.lt h_4))
  have h_5 := va_at.kept h_5 (hold _ (va_at.lt h_5))
  have h_6 := va_at.kept h_6 (hold _ (va_at.lt h_6))
  have h_7 := va_at.kept h_7 (hold _ (va_at.lt h_7))
  have h_8 : va_at D vwCl ((sz + 7), .inl (dA 0, 21, .inl (fun _ => 0))) H := hnew
  have hz : H.size = sz + 8 := by rw [hzz, hz]
  refine W.widen (k := 8) (n := 168) (Nat.le_of_ble_eq_true rfl) (Nat.le_of_ble_eq_true rfl) ?_
  refine sx_putF (ci := 5) (v := .ref (sz + 7)) (ty := .array (.int)) (C := RX5) (T := TX5) (N := 24) hx hb hts inX5 tyX5 okX5 nmX5 hown hK hS h_0 (Or.inl rfl) rfl 10 (by decide) (hts _ w_3_46) rfl rfl hin2 rfl (by decide +kernel) rfl rfl (Nat.le_of_ble_eq_true rfl) dX5_init_65 (fun H locs hq => ?_)
  obtain ⟨h_0, hzz, ho, hS⟩ := hq
  have h_0 : va_at D vwCl (a, .inr (5, [.int 0, .int 0, .int 0, .ref sz, .ref (sz + 1), .ref (sz + 2), .ref (sz + 3), .ref (sz + 4), .ref (sz + 5), .ref (sz + 6), .ref (sz + 7), .null, .null, .null, .null, .int 0, .null, .null, .null, .null, .null, .null, .null, .null])) H := h_0
  have hz := hzz.trans hz
  have h_1 := va_at.kept h_1 (ho _ (by show _ ≠ a; omega))
  have h_2 := va_at.kept h_2 (ho _ (by show _ ≠ a; omega))
  have h_3 := va_at.kept h_3 (ho _ (by show _ ≠ a; omega))
  have h_4 := va_at.kept h_4 (ho _ (by show _ ≠ a; omega))
  have h_5 := va_at.kept h_5 (ho _ (by show _ ≠ a; omega))
  have h_6 := va_at.kept h_6 (ho _ (by show _ ≠ a; omega))
  have h_7 := va_at.kept h_7 (ho _ (by show _ ≠ a; omega))
  have h_8 := va_at.kept h_8 (ho _ (by show _ ≠ a; omega))
  refine lv_aload_n hx hb dX5_init_68 rfl (lv_at hl 0 rfl) ?_
  refine lv_bipush (v := 21) hx hb dX5_init_69 (by decide) ?_
  refine sx_newa (atype := .long) (a0 := (21, .inr (.inl (fun _ => 0)))) hx hb (hts _ w_1_58) rfl hK hS 1 rfl (fun _ h => by cases h) (by first | exact vp_cell_l _ _ _ | rfl) (by decide) (show (21 : Int32).toNatClampNeg = 21 from rfl) (by decide) (Nat.le_of_ble_eq_true rfl) (Nat.le_of_ble_eq_true rfl) dX5_init_71 (fun q9 H hq => ?_)
  obtain ⟨hqq, hnew, hzz, hold, hS⟩ := hq
  rw [hz] at hqq
  subst q9
  have h_0 := va_at.kept h_0 (hold _ (va_at.lt h_0))
  have h_1 := va_at.kept h_1 (hold _ (va_at.lt h_1))
  have h_2 := va_at.kept h_2 (hold _ (va_at.lt h_2))
  have h_3 := va_at.kept h_3 (hold _ (va_at.lt h_3))
  have h_4 := va_at.kept h_4 (hold _ (va_at.lt h_4))
  have h_5 := va_at.kept h_5 (hold _ (va_at.lt h_5))
  have h_6 := va_at.kept h_6 (hold _ (va_at.lt h_6))
  have h_7 := va_at.kept h_7 (hold _ (va_at.lt h_7))
  have h_8 := va_at.kept h_8 (hold _ (va_at.lt h_8))
  have h_9 : va_at D vwCl ((sz + 8), .inl (dA 1, 21, .inr (.inl (fun _ => 0)))) H := hnew
  have hz : H.size = sz + 9 := by rw [hzz, hz]
  refine W.widen (k := 9) (n := 189) (Nat.le_of_ble_eq_true rfl) (Nat.le_of_ble_eq_true rfl) ?_
  refine sx_putF (ci := 5) (v := .ref (sz + 8)) (ty := .array (.long)) (C := RX5) (T := TX5) (N := 24) hx hb hts inX5 tyX5 okX5 nmX5 hown hK hS h_0 (Or.inl rfl) rfl 11 (by decide) (hts _ w_3_47) rfl rfl hin2 rfl (by decide +kernel) rfl rfl (Nat.le_of_ble_eq_true rfl) dX5_init_73 (fun H locs hq => ?_)
  obtain ⟨h_0, hzz, ho, hS⟩ := hq
  have h_0 : va_at D vwCl (a, .inr (5, [.int 0, .int 0, .int 0, .ref sz, .ref (sz + 1), .ref (sz + 2), .ref (sz + 3), .ref (sz + 4), .ref (sz + 5), .ref (sz + 6), .ref (sz + 7), .ref (sz + 8), .null, .null, .null, .int 0, .null, .null, .null, .null, .null, .null, .null, .null])) H := h_0
  have hz := hzz.trans hz
  have h_1 := va_at.kept h_1 (ho _ (by show _ ≠ a; omega))
  have h_2 := va_at.kept h_2 (ho _ (by show _ ≠ a; omega))
  have h_3 := va_at.kept h_3 (ho _ (by show _ ≠ a; omega))
  have h_4 := va_at.kept h_4 (ho _ (by show _ ≠ a; omega))
  have h_5 := va_at.kept h_5 (ho _ (by show _ ≠ a; omega))
  have h_6 := va_at.kept h_6 (ho _ (by show _ ≠ a; omega))
  have h_7 := va_at.kept h_7 (ho _ (by show _ ≠ a; omega))
  have h_8 := va_at.kept h_8 (ho _ (by show _ ≠ a; omega))
  have h_9 := va_at.kept h_9 (ho _ (by show _ ≠ a; omega))
  refine lv_aload_n hx hb dX5_init_76 rfl (lv_at hl 0 rfl) ?_
  refine lv_bipush (v := 21) hx hb dX5_init_77 (by decide) ?_
  refine sx_newa (atype := .long) (a0 := (21, .inr (.inl (fun _ => 0)))) hx hb (hts _ w_1_58) rfl hK hS 1 rfl (fun _ h => by cases h) (by first | exact vp_cell_l _ _ _ | rfl) (by decide) (show (21 : Int32).toNatClampNeg = 21 from rfl) (by decide) (Nat.le_of_ble_eq_true rfl) (Nat.le_of_ble_eq_true rfl) dX5_init_79 (fun q9 H hq => ?_)
  obtain ⟨hqq, hnew, hzz, hold, hS⟩ := hq
  rw [hz] at hqq
  subst q9
  have h_0 := va_at.kept h_0 (hold _ (va_at.lt h_0))
  have h_1 := va_at.kept h_1 (hold _ (va_at.lt h_1))
  have h_2 := va_at.kept h_2 (hold _ (va_at.lt h_2))
  have h_3 := va_at.kept h_3 (hold _ (va_at.lt h_3))
  have h_4 := va_at.kept h_4 (hold _ (va_at.lt h_4))
  have h_5 := va_at.kept h_5 (hold _ (va_at.lt h_5))
  have h_6 := va_at.kept h_6 (hold _ (va_at.lt h_6))
  have h_7 := va_at.kept h_7 (hold _ (va_at.lt h_7))
  have h_8 := va_at.kept h_8 (hold _ (va_at.lt h_8))
  have h_9 := va_at.kept h_9 (hold _ (va_at.lt h_9))
  have h_10 : va_at D vwCl ((sz + 9), .inl (dA 1, 21, .inr (.inl (fun _ => 0)))) H := hnew
  have hz : H.size = sz + 10 := by rw [hzz, hz]
  refine W.widen (k := 10) (n := 210) (Nat.le_of_ble_eq_true rfl) (Nat.le_of_ble_eq_true rfl) ?_
  refine sx_putF (ci := 5) (v := .ref (sz + 9)) (ty := .array (.long)) (C := RX5) (T := TX5) (N := 24) hx hb hts inX5 tyX5 okX5 nmX5 hown hK hS h_0 (Or.inl rfl) rfl 12 (by decide) (hts _ w_3_48) rfl rfl hin2 rfl (by decide +kernel) rfl rfl (Nat.le_of_ble_eq_true rfl) dX5_init_81 (fun H locs hq => ?_)
  obtain ⟨h_0, hzz, ho, hS⟩ := hq
  have h_0 : va_at D vwCl (a, .inr (5, [.int 0, .int 0, .int 0, .ref sz, .ref (sz + 1), .ref (sz + 2), .ref (sz + 3), .ref (sz + 4), .ref (sz + 5), .ref (sz + 6), .ref (sz + 7), .ref (sz + 8), .ref (sz + 9), .null, .null, .int 0, .null, .null, .null, .null, .null, .null, .null, .null])) H := h_0
  have hz := hzz.trans hz
  have h_1 := va_at.kept h_1 (ho _ (by show _ ≠ a; omega))
  have h_2 := va_at.kept h_2 (ho _ (by show _ ≠ a; omega))
  have h_3 := va_at.kept h_3 (ho _ (by show _ ≠ a; omega))
  have h_4 := va_at.kept h_4 (ho _ (by show _ ≠ a; omega))
  have h_5 := va_at.kept h_5 (ho _ (by show _ ≠ a; omega))
  have h_6 := va_at.kept h_6 (ho _ (by show _ ≠ a; omega))
  have h_7 := va_at.kept h_7 (ho _ (by show _ ≠ a; omega))
  have h_8 := va_at.kept h_8 (ho _ (by show _ ≠ a; omega))
  have h_9 := va_at.kept h_9 (ho _ (by show _ ≠ a; omega))
  have h_10 := va_at.kept h_10 (ho _ (by show _ ≠ a; omega))
  refine lv_aload_n hx hb dX5_init_84 rfl (lv_at hl 0 rfl) ?_
  refine lv_bipush (v := 21) hx hb dX5_init_85 (by decide) ?_
  refine sx_newa (atype := .int) (a0 := (21, .inl (fun _ => 0))) hx hb (hts _ w_1_57) rfl hK hS 0 rfl (fun _ h => by cases h) (by first | exact vp_cell_i _ _ _ | rfl) (by decide) (show (21 : Int32).toNatClampNeg = 21 from rfl) (by decide) (Nat.le_of_ble_eq_true rfl) (Nat.le_of_ble_eq_true rfl) dX5_init_87 (fun q9 H hq => ?_)
  obtain ⟨hqq, hnew, hzz, hold, hS⟩ := hq
  rw [hz] at hqq
  subst q9
  have h_0 := va_at.kept h_0 (hold _ (va_at.lt h_0))
  have h_1 := va_at.kept h_1 (hold _ (va_at.lt h_1))
  have h_2 := va_at.kept h_2 (hold _ (va_at.lt h_2))
  have h_3 := va_at.kept h_3 (hold _ (va_at.lt h_3))
  have h_4 := va_at.kept h_4 (hold _ (va_at.lt h_4))
  have h_5 := va_at.kept h_5 (hold _ (va_at.lt h_5))
  have h_6 := va_at.kept h_6 (hold _ (va_at.lt h_6))
  have h_7 := va_at.kept h_7 (hold _ (va_at.lt h_7))
  have h_8 := va_at.kept h_8 (hold _ (va_at.lt h_8))
  have h_9 := va_at.kept h_9 (hold _ (va_at.lt h_9))
  have h_10 := va_at.kept h_10 (hold _ (va_at.lt h_10))
  have h_11 : va_at D vwCl ((sz + 10), .inl (dA 0, 21, .inl (fun _ => 0))) H := hnew
  have hz : H.size = sz + 11 := by rw [hzz, hz]
  refine W.widen (k := 11) (n := 231) (Nat.le_of_ble_eq_true rfl) (Nat.le_of_ble_eq_true rfl) ?_
  refine sx_putF (ci := 5) (v := .ref (sz + 10)) (ty := .array (.int)) (C := RX5) (T := TX5) (N := 24) hx hb hts inX5 tyX5 okX5 nmX5 hown hK hS h_0 (Or.inl rfl) rfl 13 (by decide) (hts _ w_3_49) rfl rfl hin2 rfl (by decide +kernel) rfl rfl (Nat.le_of_ble_eq_true rfl) dX5_init_89 (fun H locs hq => ?_)
  obtain ⟨h_0, hzz, ho, hS⟩ := hq
  have h_0 : va_at D vwCl (a, .inr (5, [.int 0, .int 0, .int 0, .ref sz, .ref (sz + 1), .ref (sz + 2), .ref (sz + 3), .ref (sz + 4), .ref (sz + 5), .ref (sz + 6), .ref (sz + 7), .ref (sz + 8), .ref (sz + 9), .ref (sz + 10), .null, .int 0, .null, .null, .null, .null, .null, .null, .null, .null])) H := h_0
  have hz := hzz.trans hz
  have h_1 := va_at.kept h_1 (ho _ (by show _ ≠ a; omega))
  have h_2 := va_at.kept h_2 (ho _ (by show _ ≠ a; omega))
  have h_3 := va_at.kept h_3 (ho _ (by show _ ≠ a; omega))
  have h_4 := va_at.kept h_4 (ho _ (by show _ ≠ a; omega))
  have h_5 := va_at.kept h_5 (ho _ (by show _ ≠ a; omega))
  have h_6 := va_at.kept h_6 (ho _ (by show _ ≠ a; omega))
  have h_7 := va_at.kept h_7 (ho _ (by show _ ≠ a; omega))
  have h_8 := va_at.kept h_8 (ho _ (by show _ ≠ a; omega))
  have h_9 := va_at.kept h_9 (ho _ (by show _ ≠ a; omega))
  have h_10 := va_at.kept h_10 (ho _ (by show _ ≠ a; omega))
  have h_11 := va_at.kept h_11 (ho _ (by show _ ≠ a; omega))
  refine lv_aload_n hx hb dX5_init_92 rfl (lv_at hl 0 rfl) ?_
  refine lv_bipush (v := 20) hx hb dX5_init_93 (by decide) ?_
  refine sx_newa (atype := .int) (a0 := (20, .inl (fun _ => 0))) hx hb (hts _ w_1_57) rfl hK hS 0 rfl (fun _ h => by cases h) (by first | exact vp_cell_i _ _ _ | rfl) (by decide) (show (20 : Int32).toNatClampNeg = 20 from rfl) (by decide) (Nat.le_of_ble_eq_true rfl) (Nat.le_of_ble_eq_true rfl) dX5_init_95 (fun q9 H hq => ?_)
  obtain ⟨hqq, hnew, hzz, hold, hS⟩ := hq
  rw [hz] at hqq
  subst q9
  have h_0 := va_at.kept h_0 (hold _ (va_at.lt h_0))
  have h_1 := va_at.kept h_1 (hold _ (va_at.lt h_1))
  have h_2 := va_at.kept h_2 (hold _ (va_at.lt h_2))
  have h_3 := va_at.kept h_3 (hold _ (va_at.lt h_3))
  have h_4 := va_at.kept h_4 (hold _ (va_at.lt h_4))
  have h_5 := va_at.kept h_5 (hold _ (va_at.lt h_5))
  have h_6 := va_at.kept h_6 (hold _ (va_at.lt h_6))
  have h_7 := va_at.kept h_7 (hold _ (va_at.lt h_7))
  have h_8 := va_at.kept h_8 (hold _ (va_at.lt h_8))
  have h_9 := va_at.kept h_9 (hold _ (va_at.lt h_9))
  have h_10 := va_at.kept h_10 (hold _ (va_at.lt h_10))
  have h_11 := va_at.kept h_11 (hold _ (va_at.lt h_11))
  have h_12 : va_at D vwCl ((sz + 11), .inl (dA 0, 20, .inl (fun _ => 0))) H := hnew
  have hz : H.size = sz + 12 := by rw [hzz, hz]
  refine W.widen (k := 12) (n := 251) (Nat.le_of_ble_eq_true rfl) (Nat.le_of_ble_eq_true rfl) ?_
  refine sx_putF (ci := 5) (v := .ref (sz + 11)) (ty := .array (.int)) (C := RX5) (T := TX5) (N := 24) hx hb hts inX5 tyX5 okX5 nmX5 hown hK hS h_0 (Or.inl rfl) rfl 14 (by decide) (hts _ w_3_50) rfl rfl hin2 rfl (by decide +kernel) rfl rfl (Nat.le_of_ble_eq_true rfl) dX5_init_97 (fun H locs hq => ?_)
  obtain ⟨h_0, hzz, ho, hS⟩ := hq
  have h_0 : va_at D vwCl (a, .inr (5, [.int 0, .int 0, .int 0, .ref sz, .ref (sz + 1), .ref (sz + 2), .ref (sz + 3), .ref (sz + 4), .ref (sz + 5), .ref (sz + 6), .ref (sz + 7), .ref (sz + 8), .ref (sz + 9), .ref (sz + 10), .ref (sz + 11), .int 0, .null, .null, .null, .null, .null, .null, .null, .null])) H := h_0
  have hz := hzz.trans hz
  have h_1 := va_at.kept h_1 (ho _ (by show _ ≠ a; omega))
  have h_2 := va_at.kept h_2 (ho _ (by show _ ≠ a; omega))
  have h_3 := va_at.kept h_3 (ho _ (by show _ ≠ a; omega))
  have h_4 := va_at.kept h_4 (ho _ (by show _ ≠ a; omega))
  have h_5 := va_at.kept h_5 (ho _ (by show _ ≠ a; omega))
  have h_6 := va_at.kept h_6 (ho _ (by show _ ≠ a; omega))
  have h_7 := va_at.kept h_7 (ho _ (by show _ ≠ a; omega))
  have h_8 := va_at.kept h_8 (ho _ (by show _ ≠ a; omega))
  have h_9 := va_at.kept h_9 (ho _ (by show _ ≠ a; omega))
  have h_10 := va_at.kept h_10 (ho _ (by show _ ≠ a; omega))
  have h_11 := va_at.kept h_11 (ho _ (by show _ ≠ a; omega))
  have h_12 := va_at.kept h_12 (ho _ (by show _ ≠ a; omega))
  refine lv_aload_n hx hb dX5_init_100 rfl (lv_at hl 0 rfl) ?_
  refine lv_bipush (v := 61) hx hb dX5_init_101 (by decide) ?_
  refine sx_newa (atype := .int) (a0 := (61, .inl (fun _ => 0))) hx hb (hts _ w_1_57) rfl hK hS 0 rfl (fun _ h => by cases h) (by first | exact vp_cell_i _ _ _ | rfl) (by decide) (show (61 : Int32).toNatClampNeg = 61 from rfl) (by decide) (Nat.le_of_ble_eq_true rfl) (Nat.le_of_ble_eq_true rfl) dX5_init_103 (fun q9 H hq => ?_)
  obtain ⟨hqq, hnew, hzz, hold, hS⟩ := hq
  rw [hz] at hqq
  subst q9
  have h_0 := va_at.kept h_0 (hold _ (va_at.lt h_0))
  have h_1 := va_at.kept h_1 (hold _ (va_at.lt h_1))
  have h_2 := va_at.kept h_2 (hold _ (va_at.lt h_2))
  have h_3 := va_at.kept h_3 (hold _ (va_at.lt h_3))
  have h_4 := va_at.kept h_4 (hold _ (va_at.lt h_4))
  have h_5 := va_at.kept h_5 (hold _ (va_at.lt h_5))
  have h_6 := va_at.kept h_6 (hold _ (va_at.lt h_6))
  have h_7 := va_at.kept h_7 (hold _ (va_at.lt h_7))
  have h_8 := va_at.kept h_8 (hold _ (va_at.lt h_8))
  have h_9 := va_at.kept h_9 (hold _ (va_at.lt h_9))
  have h_10 := va_at.kept h_10 (hold _ (va_at.lt h_10))
  have h_11 := va_at.kept h_11 (hold _ (va_at.lt h_11))
  have h_12 := va_at.kept h_12 (hold _ (va_at.lt h_12))
  have h_13 : va_at D vwCl ((sz + 12), .inl (dA 0, 61, .inl (fun _ => 0))) H := hnew
  have hz : H.size = sz + 13 := by rw [hzz, hz]
  refine W.widen (k := 13) (n := 312) (Nat.le_of_ble_eq_true rfl) (Nat.le_of_ble_eq_true rfl) ?_
  refine sx_putF (ci := 5) (v := .ref (sz + 12)) (ty := .array (.int)) (C := RX5) (T := TX5) (N := 24) hx hb hts inX5 tyX5 okX5 nmX5 hown hK hS h_0 (Or.inl rfl) rfl 16 (by decide) (hts _ w_3_52) rfl rfl hin2 rfl (by decide +kernel) rfl rfl (Nat.le_of_ble_eq_true rfl) dX5_init_105 (fun H locs hq => ?_)
  obtain ⟨h_0, hzz, ho, hS⟩ := hq
  have h_0 : va_at D vwCl (a, .inr (5, [.int 0, .int 0, .int 0, .ref sz, .ref (sz + 1), .ref (sz + 2), .ref (sz + 3), .ref (sz + 4), .ref (sz + 5), .ref (sz + 6), .ref (sz + 7), .ref (sz + 8), .ref (sz + 9), .ref (sz + 10), .ref (sz + 11), .int 0, .ref (sz + 12), .null, .null, .null, .null, .null, .null, .null])) H := h_0
  have hz := hzz.trans hz
  have h_1 := va_at.kept h_1 (ho _ (by show _ ≠ a; omega))
  have h_2 := va_at.kept h_2 (ho _ (by show _ ≠ a; omega))
  have h_3 := va_at.kept h_3 (ho _ (by show _ ≠ a; omega))
  have h_4 := va_at.kept h_4 (ho _ (by show _ ≠ a; omega))
  have h_5 := va_at.kept h_5 (ho _ (by show _ ≠ a; omega))
  have h_6 := va_at.kept h_6 (ho _ (by show _ ≠ a; omega))
  have h_7 := va_at.kept h_7 (ho _ (by show _ ≠ a; omega))
  have h_8 := va_at.kept h_8 (ho _ (by show _ ≠ a; omega))
  have h_9 := va_at.kept h_9 (ho _ (by show _ ≠ a; omega))
  have h_10 := va_at.kept h_10 (ho _ (by show _ ≠ a; omega))
  have h_11 := va_at.kept h_11 (ho _ (by show _ ≠ a; omega))
  have h_12 := va_at.kept h_12 (ho _ (by show _ ≠ a; omega))
  have h_13 := va_at.kept h_13 (ho _ (by show _ ≠ a; omega))
  refine lv_aload_n hx hb dX5_init_108 rfl (lv_at hl 0 rfl) ?_
  refine lv_bipush (v := 61) hx hb dX5_init_109 (by decide) ?_
  refine sx_newa (atype := .long) (a0 := (61, .inr (.inl (fun _ => 0)))) hx hb (hts _ w_1_58) rfl hK hS 1 rfl (fun _ h => by cases h) (by first | exact vp_cell_l _ _ _ | rfl) (by decide) (show (61 : Int32).toNatClampNeg = 61 from rfl) (by decide) (Nat.le_of_ble_eq_true rfl) (Nat.le_of_ble_eq_true rfl) dX5_init_111 (fun q9 H hq => ?_)
  obtain ⟨hqq, hnew, hzz, hold, hS⟩ := hq
  rw [hz] at hqq
  subst q9
  have h_0 := va_at.kept h_0 (hold _ (va_at.lt h_0))
  have h_1 := va_at.kept h_1 (hold _ (va_at.lt h_1))
  have h_2 := va_at.kept h_2 (hold _ (va_at.lt h_2))
  have h_3 := va_at.kept h_3 (hold _ (va_at.lt h_3))
  have h_4 := va_at.kept h_4 (hold _ (va_at.lt h_4))
  have h_5 := va_at.kept h_5 (hold _ (va_at.lt h_5))
  have h_6 := va_at.kept h_6 (hold _ (va_at.lt h_6))
  have h_7 := va_at.kept h_7 (hold _ (va_at.lt h_7))
  have h_8 := va_at.kept h_8 (hold _ (va_at.lt h_8))
  have h_9 := va_at.kept h_9 (hold _ (va_at.lt h_9))
  have h_10 := va_at.kept h_10 (hold _ (va_at.lt h_10))
  have h_11 := va_at.kept h_11 (hold _ (va_at.lt h_11))
  have h_12 := va_at.kept h_12 (hold _ (va_at.lt h_12))
  have h_13 := va_at.kept h_13 (hold _ (va_at.lt h_13))
  have h_14 : va_at D vwCl ((sz + 13), .inl (dA 1, 61, .inr (.inl (fun _ => 0)))) H := hnew
  have hz : H.size = sz + 14 := by rw [hzz, hz]
  refine W.widen (k := 14) (n := 373) (Nat.le_of_ble_eq_true rfl) (Nat.le_of_ble_eq_true rfl) ?_
  refine sx_putF (ci := 5) (v := .ref (sz + 13)) (ty := .array (.long)) (C := RX5) (T := TX5) (N := 24) hx hb hts inX5 tyX5 okX5 nmX5 hown hK hS h_0 (Or.inl rfl) rfl 17 (by decide) (hts _ w_3_53) rfl rfl hin2 rfl (by decide +kernel) rfl rfl (Nat.le_of_ble_eq_true rfl) dX5_init_113 (fun H locs hq => ?_)
  obtain ⟨h_0, hzz, ho, hS⟩ := hq
  have h_0 : va_at D vwCl (a, .inr (5, [.int 0, .int 0, .int 0, .ref sz, .ref (sz + 1), .ref (sz + 2), .ref (sz + 3), .ref (sz + 4), .ref (sz + 5), .ref (sz + 6), .ref (sz + 7), .ref (sz + 8), .ref (sz + 9), .ref (sz + 10), .ref (sz + 11), .int 0, .ref (sz + 12), .ref (sz + 13), .null, .null, .null, .null, .null, .null])) H := h_0
  have hz := hzz.trans hz
  have h_1 := va_at.kept h_1 (ho _ (by show _ ≠ a; omega))
  have h_2 := va_at.kept h_2 (ho _ (by show _ ≠ a; omega))
  have h_3 := va_at.kept h_3 (ho _ (by show _ ≠ a; omega))
  have h_4 := va_at.kept h_4 (ho _ (by show _ ≠ a; omega))
  have h_5 := va_at.kept h_5 (ho _ (by show _ ≠ a; omega))
  have h_6 := va_at.kept h_6 (ho _ (by show _ ≠ a; omega))
  have h_7 := va_at.kept h_7 (ho _ (by show _ ≠ a; omega))
  have h_8 := va_at.kept h_8 (ho _ (by show _ ≠ a; omega))
  have h_9 := va_at.kept h_9 (ho _ (by show _ ≠ a; omega))
  have h_10 := va_at.kept h_10 (ho _ (by show _ ≠ a; omega))
  have h_11 := va_at.kept h_11 (ho _ (by show _ ≠ a; omega))
  have h_12 := va_at.kept h_12 (ho _ (by show _ ≠ a; omega))
  have h_13 := va_at.kept h_13 (ho _ (by show _ ≠ a; omega))
  have h_14 := va_at.kept h_14 (ho _ (by show _ ≠ a; omega))
  refine lv_aload_n hx hb dX5_init_116 rfl (lv_at hl 0 rfl) ?_
  refine lv_bipush (v := 61) hx hb dX5_init_117 (by decide) ?_
  refine sx_newa (atype := .int) (a0 := (61, .inl (fun _ => 0))) hx hb (hts _ w_1_57) rfl hK hS 0 rfl (fun _ h => by cases h) (by first | exact vp_cell_i _ _ _ | rfl) (by decide) (show (61 : Int32).toNatClampNeg = 61 from rfl) (by decide) (Nat.le_of_ble_eq_true rfl) (Nat.le_of_ble_eq_true rfl) dX5_init_119 (fun q9 H hq => ?_)
  obtain ⟨hqq, hnew, hzz, hold, hS⟩ := hq
  rw [hz] at hqq
  subst q9
  have h_0 := va_at.kept h_0 (hold _ (va_at.lt h_0))
  have h_1 := va_at.kept h_1 (hold _ (va_at.lt h_1))
  have h_2 := va_at.kept h_2 (hold _ (va_at.lt h_2))
  have h_3 := va_at.kept h_3 (hold _ (va_at.lt h_3))
  have h_4 := va_at.kept h_4 (hold _ (va_at.lt h_4))
  have h_5 := va_at.kept h_5 (hold _ (va_at.lt h_5))
  have h_6 := va_at.kept h_6 (hold _ (va_at.lt h_6))
  have h_7 := va_at.kept h_7 (hold _ (va_at.lt h_7))
  have h_8 := va_at.kept h_8 (hold _ (va_at.lt h_8))
  have h_9 := va_at.kept h_9 (hold _ (va_at.lt h_9))
  have h_10 := va_at.kept h_10 (hold _ (va_at.lt h_10))
  have h_11 := va_at.kept h_11 (hold _ (va_at.lt h_11))
  have h_12 := va_at.kept h_12 (hold _ (va_at.lt h_12))
  have h_13 := va_at.kept h_13 (hold _ (va_at.lt h_13))
  have h_14 := va_at.kept h_14 (hold _ (va_at.lt h_14))
  have h_15 : va_at D vwCl ((sz + 14), .inl (dA 0, 61, .inl (fun _ => 0))) H := hnew
  have hz : H.size = sz + 15 := by rw [hzz, hz]
  refine W.widen (k := 15) (n := 434) (Nat.le_of_ble_eq_true rfl) (Nat.le_of_ble_eq_true rfl) ?_
  refine sx_putF (ci := 5) (v := .ref (sz + 14)) (ty := .array (.int)) (C := RX5) (T := TX5) (N := 24) hx hb hts inX5 tyX5 okX5 nmX5 hown hK hS h_0 (Or.inl rfl) rfl 18 (by decide) (hts _ w_3_54) rfl rfl hin2 rfl (by decide +kernel) rfl rfl (Nat.le_of_ble_eq_true rfl) dX5_init_121 (fun H locs hq => ?_)
  obtain ⟨h_0, hzz, ho, hS⟩ := hq
  have h_0 : va_at D vwCl (a, .inr (5, [.int 0, .int 0, .int 0, .ref sz, .ref (sz + 1), .ref (sz + 2), .ref (sz + 3), .ref (sz + 4), .ref (sz + 5), .ref (sz + 6), .ref (sz + 7), .ref (sz + 8), .ref (sz + 9), .ref (sz + 10), .ref (sz + 11), .int 0, .ref (sz + 12), .ref (sz + 13), .ref (sz + 14), .null, .null, .null, .null, .null])) H := h_0
  have hz := hzz.trans hz
  have h_1 := va_at.kept h_1 (ho _ (by show _ ≠ a; omega))
  have h_2 := va_at.kept h_2 (ho _ (by show _ ≠ a; omega))
  have h_3 := va_at.kept h_3 (ho _ (by show _ ≠ a; omega))
  have h_4 := va_at.kept h_4 (ho _ (by show _ ≠ a; omega))
  have h_5 := va_at.kept h_5 (ho _ (by show _ ≠ a; omega))
  have h_6 := va_at.kept h_6 (ho _ (by show _ ≠ a; omega))
  have h_7 := va_at.kept h_7 (ho _ (by show _ ≠ a; omega))
  have h_8 := va_at.kept h_8 (ho _ (by show _ ≠ a; omega))
  have h_9 := va_at.kept h_9 (ho _ (by show _ ≠ a; omega))
  have h_10 := va_at.kept h_10 (ho _ (by show _ ≠ a; omega))
  have h_11 := va_at.kept h_11 (ho _ (by show _ ≠ a; omega))
  have h_12 := va_at.kept h_12 (ho _ (by show _ ≠ a; omega))
  have h_13 := va_at.kept h_13 (ho _ (by show _ ≠ a; omega))
  have h_14 := va_at.kept h_14 (ho _ (by show _ ≠ a; omega))
  have h_15 := va_at.kept h_15 (ho _ (by show _ ≠ a; omega))
  refine lv_aload_n hx hb dX5_init_124 rfl (lv_at hl 0 rfl) ?_
  refine lv_bipush (v := 61) hx hb dX5_init_125 (by decide) ?_
  refine sx_newa (atype := .int) (a0 := (61, .inl (fun _ => 0))) hx hb (hts _ w_1_57) rfl hK hS 0 rfl (fun _ h => by cases h) (by first | exact vp_cell_i _ _ _ | rfl) (by decide) (show (61 : Int32).toNatClampNeg = 61 from rfl) (by decide) (Nat.le_of_ble_eq_true rfl) (Nat.le_of_ble_eq_true rfl) dX5_init_127 (fun q9 H hq => ?_)
  obtain ⟨hqq, hnew, hzz, hold, hS⟩ := hq
  rw [hz] at hqq
  subst q9
  have h_0 := va_at.kept h_0 (hold _ (va_at.lt h_0))
  have h_1 := va_at.kept h_1 (hold _ (va_at.lt h_1))
  have h_2 := va_at.kept h_2 (hold _ (va_at.lt h_2))
  have h_3 := va_at.kept h_3 (hold _ (va_at.lt h_3))
  have h_4 := va_at.kept h_4 (hold _ (va_at.lt h_4))
  have h_5 := va_at.kept h_5 (hold _ (va_at.lt h_5))
  have h_6 := va_at.kept h_6 (hold _ (va_at.lt h_6))
  have h_7 := va_at.kept h_7 (hold _ (va_at.lt h_7))
  have h_8 := va_at.kept h_8 (hold _ (va_at.lt h_8))
  have h_9 := va_at.kept h_9 (hold _ (va_at.lt h_9))
  have h_10 := va_at.kept h_10 (hold _ (va_at.lt h_10))
  have h_11 := va_at.kept h_11 (hold _ (va_at.lt h_11))
  have h_12 := va_at.kept h_12 (hold _ (va_at.lt h_12))
  have h_13 := va_at.kept h_13 (hold _ (va_at.lt h_13))
  have h_14 := va_at.kept h_14 (hold _ (va_at.lt h_14))
  have h_15 := va_at.kept h_15 (hold _ (va_at.lt h_15))
  have h_16 : va_at D vwCl ((sz + 15), .inl (dA 0, 61, .inl (fun _ => 0))) H := hnew
  have hz : H.size = sz + 16 := by rw [hzz, hz]
  refine W.widen (k := 16) (n := 495) (Nat.le_of_ble_eq_true rfl) (Nat.le_of_ble_eq_true rfl) ?_
  refine sx_putF (ci := 5) (v := .ref (sz + 15)) (ty := .array (.int)) (C := RX5) (T := TX5) (N := 24) hx hb hts inX5 tyX5 okX5 nmX5 hown hK hS h_0 (Or.inl rfl) rfl 19 (by decide) (hts _ w_3_55) rfl rfl hin2 rfl (by decide +kernel) rfl rfl (Nat.le_of_ble_eq_true rfl) dX5_init_129 (fun H locs hq => ?_)
  obtain ⟨h_0, hzz, ho, hS⟩ := hq
  have h_0 : va_at D vwCl (a, .inr (5, [.int 0, .int 0, .int 0, .ref sz, .ref (sz + 1), .ref (sz + 2), .ref (sz + 3), .ref (sz + 4), .ref (sz + 5), .ref (sz + 6), .ref (sz + 7), .ref (sz + 8), .ref (sz + 9), .ref (sz + 10), .ref (sz + 11), .int 0, .ref (sz + 12), .ref (sz + 13), .ref (sz + 14), .ref (sz + 15), .null, .null, .null, .null])) H := h_0
  have hz := hzz.trans hz
  have h_1 := va_at.kept h_1 (ho _ (by show _ ≠ a; omega))
  have h_2 := va_at.kept h_2 (ho _ (by show _ ≠ a; omega))
  have h_3 := va_at.kept h_3 (ho _ (by show _ ≠ a; omega))
  have h_4 := va_at.kept h_4 (ho _ (by show _ ≠ a; omega))
  have h_5 := va_at.kept h_5 (ho _ (by show _ ≠ a; omega))
  have h_6 := va_at.kept h_6 (ho _ (by show _ ≠ a; omega))
  have h_7 := va_at.kept h_7 (ho _ (by show _ ≠ a; omega))
  have h_8 := va_at.kept h_8 (ho _ (by show _ ≠ a; omega))
  have h_9 := va_at.kept h_9 (ho _ (by show _ ≠ a; omega))
  have h_10 := va_at.kept h_10 (ho _ (by show _ ≠ a; omega))
  have h_11 := va_at.kept h_11 (ho _ (by show _ ≠ a; omega))
  have h_12 := va_at.kept h_12 (ho _ (by show _ ≠ a; omega))
  have h_13 := va_at.kept h_13 (ho _ (by show _ ≠ a; omega))
  have h_14 := va_at.kept h_14 (ho _ (by show _ ≠ a; omega))
  have h_15 := va_at.kept h_15 (ho _ (by show _ ≠ a; omega))
  have h_16 := va_at.kept h_16 (ho _ (by show _ ≠ a; omega))
  refine lv_aload_n hx hb dX5_init_132 rfl (lv_at hl 0 rfl) ?_
  refine lv_sipush (v := 244) hx hb dX5_init_133 (by decide) ?_
  refine sx_newa (atype := .int) (a0 := (244, .inl (fun _ => 0))) hx hb (hts _ w_1_57) rfl hK hS 0 rfl (fun _ h => by cases h) (by first | exact vp_cell_i _ _ _ | rfl) (by decide) (show (244 : Int32).toNatClampNeg = 244 from rfl) (by decide) (Nat.le_of_ble_eq_true rfl) (Nat.le_of_ble_eq_true rfl) dX5_init_136 (fun q9 H hq => ?_)
  obtain ⟨hqq, hnew, hzz, hold, hS⟩ := hq
  rw [hz] at hqq
  subst q9
  have h_0 := va_at.kept h_0 (hold _ (va_at.lt h_0))
  have h_1 := va_at.kept h_1 (hold _ (va_at.lt h_1))
  have h_2 := va_at.kept h_2 (hold _ (va_at.lt h_2))
  have h_3 := va_at.kept h_3 (hold _ (va_at.lt h_3))
  have h_4 := va_at.kept h_4 (hold _ (va_at.lt h_4))
  have h_5 := va_at.kept h_5 (hold _ (va_at.lt h_5))
  have h_6 := va_at.kept h_6 (hold _ (va_at.lt h_6))
  have h_7 := va_at.kept h_7 (hold _ (va_at.lt h_7))
  have h_8 := va_at.kept h_8 (hold _ (va_at.lt h_8))
  have h_9 := va_at.kept h_9 (hold _ (va_at.lt h_9))
  have h_10 := va_at.kept h_10 (hold _ (va_at.lt h_10))
  have h_11 := va_at.kept h_11 (hold _ (va_at.lt h_11))
  have h_12 := va_at.kept h_12 (hold _ (va_at.lt h_12))
  have h_13 := va_at.kept h_13 (hold _ (va_at.lt h_13))
  have h_14 := va_at.kept h_14 (hold _ (va_at.lt h_14))
  have h_15 := va_at.kept h_15 (hold _ (va_at.lt h_15))
  have h_16 := va_at.kept h_16 (hold _ (va_at.lt h_16))
  have h_17 : va_at D vwCl ((sz + 16), .inl (dA 0, 244, .inl (fun _ => 0))) H := hnew
  have hz : H.size = sz + 17 := by rw [hzz, hz]
  refine W.widen (k := 17) (n := 739) (Nat.le_of_ble_eq_true rfl) (Nat.le_of_ble_eq_true rfl) ?_
  refine sx_putF (ci := 5) (v := .ref (sz + 16)) (ty := .array (.int)) (C := RX5) (T := TX5) (N := 24) hx hb hts inX5 tyX5 okX5 nmX5 hown hK hS h_0 (Or.inl rfl) rfl 20 (by decide) (hts _ w_3_56) rfl rfl hin2 rfl (by decide +kernel) rfl rfl (Nat.le_of_ble_eq_true rfl) dX5_init_138 (fun H locs hq => ?_)
  obtain ⟨h_0, hzz, ho, hS⟩ := hq
  have h_0 : va_at D vwCl (a, .inr (5, [.int 0, .int 0, .int 0, .ref sz, .ref (sz + 1), .ref (sz + 2), .ref (sz + 3), .ref (sz + 4), .ref (sz + 5), .ref (sz + 6), .ref (sz + 7), .ref (sz + 8), .ref (sz + 9), .ref (sz + 10), .ref (sz + 11), .int 0, .ref (sz + 12), .ref (sz + 13), .ref (sz + 14), .ref (sz + 15), .ref (sz + 16), .null, .null, .null])) H := h_0
  have hz := hzz.trans hz
  have h_1 := va_at.kept h_1 (ho _ (by show _ ≠ a; omega))
  have h_2 := va_at.kept h_2 (ho _ (by show _ ≠ a; omega))
  have h_3 := va_at.kept h_3 (ho _ (by show _ ≠ a; omega))
  have h_4 := va_at.kept h_4 (ho _ (by show _ ≠ a; omega))
  have h_5 := va_at.kept h_5 (ho _ (by show _ ≠ a; omega))
  have h_6 := va_at.kept h_6 (ho _ (by show _ ≠ a; omega))
  have h_7 := va_at.kept h_7 (ho _ (by show _ ≠ a; omega))
  have h_8 := va_at.kept h_8 (ho _ (by show _ ≠ a; omega))
  have h_9 := va_at.kept h_9 (ho _ (by show _ ≠ a; omega))
  have h_10 := va_at.kept h_10 (ho _ (by show _ ≠ a; omega))
  have h_11 := va_at.kept h_11 (ho _ (by show _ ≠ a; omega))
  have h_12 := va_at.kept h_12 (ho _ (by show _ ≠ a; omega))
  have h_13 := va_at.kept h_13 (ho _ (by show _ ≠ a; omega))
  have h_14 := va_at.kept h_14 (ho _ (by show _ ≠ a; omega))
  have h_15 := va_at.kept h_15 (ho _ (by show _ ≠ a; omega))
  have h_16 := va_at.kept h_16 (ho _ (by show _ ≠ a; omega))
  have h_17 := va_at.kept h_17 (ho _ (by show _ ≠ a; omega))
  refine lv_aload_n hx hb dX5_init_141 rfl (lv_at hl 0 rfl) ?_
  refine lv_sipush (v := 244) hx hb dX5_init_142 (by decide) ?_
  refine sx_newa (atype := .long) (a0 := (244, .inr (.inl (fun _ => 0)))) hx hb (hts _ w_1_58) rfl hK hS 1 rfl (fun _ h => by cases h) (by first | exact vp_cell_l _ _ _ | rfl) (by decide) (show (244 : Int32).toNatClampNeg = 244 from rfl) (by decide) (Nat.le_of_ble_eq_true rfl) (Nat.le_of_ble_eq_true rfl) dX5_init_145 (fun q9 H hq => ?_)
  obtain ⟨hqq, hnew, hzz, hold, hS⟩ := hq
  rw [hz] at hqq
  subst q9
  have h_0 := va_at.kept h_0 (hold _ (va_at.lt h_0))
  have h_1 := va_at.kept h_1 (hold _ (va_at.lt h_1))
  have h_2 := va_at.kept h_2 (hold _ (va_at.lt h_2))
  have h_3 := va_at.kept h_3 (hold _ (va_at.lt h_3))
  have h_4 := va_at.kept h_4 (hold _ (va_at.lt h_4))
  have h_5 := va_at.kept h_5 (hold _ (va_at.lt h_5))
  have h_6 := va_at.kept h_6 (hold _ (va_at.lt h_6))
  have h_7 := va_at.kept h_7 (hold _ (va_at.lt h_7))
  have h_8 := va_at.kept h_8 (hold _ (va_at.lt h_8))
  have h_9 := va_at.kept h_9 (hold _ (va_at.lt h_9))
  have h_10 := va_at.kept h_10 (hold _ (va_at.lt h_10))
  have h_11 := va_at.kept h_11 (hold _ (va_at.lt h_11))
  have h_12 := va_at.kept h_12 (hold _ (va_at.lt h_12))
  have h_13 := va_at.kept h_13 (hold _ (va_at.lt h_13))
  have h_14 := va_at.kept h_14 (hold _ (va_at.lt h_14))
  have h_15 := va_at.kept h_15 (hold _ (va_at.lt h_15))
  have h_16 := va_at.kept h_16 (hold _ (va_at.lt h_16))
  have h_17 := va_at.kept h_17 (hold _ (va_at.lt h_17))
  have h_18 : va_at D vwCl ((sz + 17), .inl (dA 1, 244, .inr (.inl (fun _ => 0)))) H := hnew
  have hz : H.size = sz + 18 := by rw [hzz, hz]
  refine W.widen (k := 18) (n := 983) (Nat.le_of_ble_eq_true rfl) (Nat.le_of_ble_eq_true rfl) ?_
  refine sx_putF (ci := 5) (v := .ref (sz + 17)) (ty := .array (.long)) (C := RX5) (T := TX5) (N := 24) hx hb hts inX5 tyX5 okX5 nmX5 hown hK hS h_0 (Or.inl rfl) rfl 21 (by decide) (hts _ w_3_57) rfl rfl hin2 rfl (by decide +kernel) rfl rfl (Nat.le_of_ble_eq_true rfl) dX5_init_147 (fun H locs hq => ?_)
  obtain ⟨h_0, hzz, ho, hS⟩ := hq
  have h_0 : va_at D vwCl (a, .inr (5, [.int 0, .int 0, .int 0, .ref sz, .ref (sz + 1), .ref (sz + 2), .ref (sz + 3), .ref (sz + 4), .ref (sz + 5), .ref (sz + 6), .ref (sz + 7), .ref (sz + 8), .ref (sz + 9), .ref (sz + 10), .ref (sz + 11), .int 0, .ref (sz + 12), .ref (sz + 13), .ref (sz + 14), .ref (sz + 15), .ref (sz + 16), .ref (sz + 17), .null, .null])) H := h_0
  have hz := hzz.trans hz
  have h_1 := va_at.kept h_1 (ho _ (by show _ ≠ a; omega))
  have h_2 := va_at.kept h_2 (ho _ (by show _ ≠ a; omega))
  have h_3 := va_at.kept h_3 (ho _ (by show _ ≠ a; omega))
  have h_4 := va_at.kept h_4 (ho _ (by show _ ≠ a; omega))
  have h_5 := va_at.kept h_5 (ho _ (by show _ ≠ a; omega))
  have h_6 := va_at.kept h_6 (ho _ (by show _ ≠ a; omega))
  have h_7 := va_at.kept h_7 (ho _ (by show _ ≠ a; omega))
  have h_8 := va_at.kept h_8 (ho _ (by show _ ≠ a; omega))
  have h_9 := va_at.kept h_9 (ho _ (by show _ ≠ a; omega))
  have h_10 := va_at.kept h_10 (ho _ (by show _ ≠ a; omega))
  have h_11 := va_at.kept h_11 (ho _ (by show _ ≠ a; omega))
  have h_12 := va_at.kept h_12 (ho _ (by show _ ≠ a; omega))
  have h_13 := va_at.kept h_13 (ho _ (by show _ ≠ a; omega))
  have h_14 := va_at.kept h_14 (ho _ (by show _ ≠ a; omega))
  have h_15 := va_at.kept h_15 (ho _ (by show _ ≠ a; omega))
  have h_16 := va_at.kept h_16 (ho _ (by show _ ≠ a; omega))
  have h_17 := va_at.kept h_17 (ho _ (by show _ ≠ a; omega))
  have h_18 := va_at.kept h_18 (ho _ (by show _ ≠ a; omega))
  refine lv_aload_n hx hb dX5_init_150 rfl (lv_at hl 0 rfl) ?_
  refine lv_iconst (v := 4) hx hb dX5_init_151 (by decide) ?_
  refine sx_newa (atype := .boolean) (a0 := (4, .inl (fun _ => 0))) hx hb (hts _ w_1_56) rfl hK hS 2 rfl (fun _ h => by cases h) (by first | exact vp_cell_i _ _ _ | rfl) (by decide) (show (4 : Int32).toNatClampNeg = 4 from rfl) (by decide) (Nat.le_of_ble_eq_true rfl) (Nat.le_of_ble_eq_true rfl) dX5_init_152 (fun q9 H hq => ?_)
  obtain ⟨hqq, hnew, hzz, hold, hS⟩ := hq
  rw [hz] at hqq
  subst q9
  have h_0 := va_at.kept h_0 (hold _ (va_at.lt h_0))
  have h_1 := va_at.kept h_1 (hold _ (va_at.lt h_1))
  have h_2 := va_at.kept h_2 (hold _ (va_at.lt h_2))
  have h_3 := va_at.kept h_3 (hold _ (va_at.lt h_3))
  have h_4 := va_at.kept h_4 (hold _ (va_at.lt h_4))
  have h_5 := va_at.kept h_5 (hold _ (va_at.lt h_5))
  have h_6 := va_at.kept h_6 (hold _ (va_at.lt h_6))
  have h_7 := va_at.kept h_7 (hold _ (va_at.lt h_7))
  have h_8 := va_at.kept h_8 (hold _ (va_at.lt h_8))
  have h_9 := va_at.kept h_9 (hold _ (va_at.lt h_9))
  have h_10 := va_at.kept h_10 (hold _ (va_at.lt h_10))
  have h_11 := va_at.kept h_11 (hold _ (va_at.lt h_11))
  have h_12 := va_at.kept h_12 (hold _ (va_at.lt h_12))
  have h_13 := va_at.kept h_13 (hold _ (va_at.lt h_13))
  have h_14 := va_at.kept h_14 (hold _ (va_at.lt h_14))
  have h_15 := va_at.kept h_15 (hold _ (va_at.lt h_15))
  have h_16 := va_at.kept h_16 (hold _ (va_at.lt h_16))
  have h_17 := va_at.kept h_17 (hold _ (va_at.lt h_17))
  have h_18 := va_at.kept h_18 (hold _ (va_at.lt h_18))
  have h_19 : va_at D vwCl ((sz + 18), .inl (dA 2, 4, .inl (fun _ => 0))) H := hnew
  have hz : H.size = sz + 19 := by rw [hzz, hz]
  refine W.widen (k := 19) (n := 987) (Nat.le_of_ble_eq_true rfl) (Nat.le_of_ble_eq_true rfl) ?_
  refine sx_putF (ci := 5) (v := .ref (sz + 18)) (ty := .array (.boolean)) (C := RX5) (T := TX5) (N := 24) hx hb hts inX5 tyX5 okX5 nmX5 hown hK hS h_0 (Or.inl rfl) rfl 22 (by decide) (hts _ w_3_58) rfl rfl hin2 rfl (by decide +kernel) rfl rfl (Nat.le_of_ble_eq_true rfl) dX5_init_154 (fun H locs hq => ?_)
  obtain ⟨h_0, hzz, ho, hS⟩ := hq
  have h_0 : va_at D vwCl (a, .inr (5, [.int 0, .int 0, .int 0, .ref sz, .ref (sz + 1), .ref (sz + 2), .ref (sz + 3), .ref (sz + 4), .ref (sz + 5), .ref (sz + 6), .ref (sz + 7), .ref (sz + 8), .ref (sz + 9), .ref (sz + 10), .ref (sz + 11), .int 0, .ref (sz + 12), .ref (sz + 13), .ref (sz + 14), .ref (sz + 15), .ref (sz + 16), .ref (sz + 17), .ref (sz + 18), .null])) H := h_0
  have hz := hzz.trans hz
  have h_1 := va_at.kept h_1 (ho _ (by show _ ≠ a; omega))
  have h_2 := va_at.kept h_2 (ho _ (by show _ ≠ a; omega))
  have h_3 := va_at.kept h_3 (ho _ (by show _ ≠ a; omega))
  have h_4 := va_at.kept h_4 (ho _ (by show _ ≠ a; omega))
  have h_5 := va_at.kept h_5 (ho _ (by show _ ≠ a; omega))
  have h_6 := va_at.kept h_6 (ho _ (by show _ ≠ a; omega))
  have h_7 := va_at.kept h_7 (ho _ (by show _ ≠ a; omega))
  have h_8 := va_at.kept h_8 (ho _ (by show _ ≠ a; omega))
  have h_9 := va_at.kept h_9 (ho _ (by show _ ≠ a; omega))
  have h_10 := va_at.kept h_10 (ho _ (by show _ ≠ a; omega))
  have h_11 := va_at.kept h_11 (ho _ (by show _ ≠ a; omega))
  have h_12 := va_at.kept h_12 (ho _ (by show _ ≠ a; omega))
  have h_13 := va_at.kept h_13 (ho _ (by show _ ≠ a; omega))
  have h_14 := va_at.kept h_14 (ho _ (by show _ ≠ a; omega))
  have h_15 := va_at.kept h_15 (ho _ (by show _ ≠ a; omega))
  have h_16 := va_at.kept h_16 (ho _ (by show _ ≠ a; omega))
  have h_17 := va_at.kept h_17 (ho _ (by show _ ≠ a; omega))
  have h_18 := va_at.kept h_18 (ho _ (by show _ ≠ a; omega))
  have h_19 := va_at.kept h_19 (ho _ (by show _ ≠ a; omega))
  refine lv_aload_n hx hb dX5_init_157 rfl (lv_at hl 0 rfl) ?_
  refine lv_iconst (v := 4) hx hb dX5_init_158 (by decide) ?_
  refine sx_newa (atype := .int) (a0 := (4, .inl (fun _ => 0))) hx hb (hts _ w_1_57) rfl hK hS 0 rfl (fun _ h => by cases h) (by first | exact vp_cell_i _ _ _ | rfl) (by decide) (show (4 : Int32).toNatClampNeg = 4 from rfl) (by decide) (Nat.le_of_ble_eq_true rfl) (Nat.le_of_ble_eq_true rfl) dX5_init_159 (fun q9 H hq => ?_)
  obtain ⟨hqq, hnew, hzz, hold, hS⟩ := hq
  rw [hz] at hqq
  subst q9
  have h_0 := va_at.kept h_0 (hold _ (va_at.lt h_0))
  have h_1 := va_at.kept h_1 (hold _ (va_at.lt h_1))
  have h_2 := va_at.kept h_2 (hold _ (va_at.lt h_2))
  have h_3 := va_at.kept h_3 (hold _ (va_at.lt h_3))
  have h_4 := va_at.kept h_4 (hold _ (va_at.lt h_4))
  have h_5 := va_at.kept h_5 (hold _ (va_at.lt h_5))
  have h_6 := va_at.kept h_6 (hold _ (va_at.lt h_6))
  have h_7 := va_at.kept h_7 (hold _ (va_at.lt h_7))
  have h_8 := va_at.kept h_8 (hold _ (va_at.lt h_8))
  have h_9 := va_at.kept h_9 (hold _ (va_at.lt h_9))
  have h_10 := va_at.kept h_10 (hold _ (va_at.lt h_10))
  have h_11 := va_at.kept h_11 (hold _ (va_at.lt h_11))
  have h_12 := va_at.kept h_12 (hold _ (va_at.lt h_12))
  have h_13 := va_at.kept h_13 (hold _ (va_at.lt h_13))
  have h_14 := va_at.kept h_14 (hold _ (va_at.lt h_14))
  have h_15 := va_at.kept h_15 (hold _ (va_at.lt h_15))
  have h_16 := va_at.kept h_16 (hold _ (va_at.lt h_16))
  have h_17 := va_at.kept h_17 (hold _ (va_at.lt h_17))
  have h_18 := va_at.kept h_18 (hold _ (va_at.lt h_18))
  have h_19 := va_at.kept h_19 (hold _ (va_at.lt h_19))
  have h_20 : va_at D vwCl ((sz + 19), .inl (dA 0, 4, .inl (fun _ => 0))) H := hnew
  have hz : H.size = sz + 20 := by rw [hzz, hz]
  refine W.widen (k := 20) (n := 991) (Nat.le_of_ble_eq_true rfl) (Nat.le_of_ble_eq_true rfl) ?_
  refine sx_putF (ci := 5) (v := .ref (sz + 19)) (ty := .array (.int)) (C := RX5) (T := TX5) (N := 24) hx hb hts inX5 tyX5 okX5 nmX5 hown hK hS h_0 (Or.inl rfl) rfl 23 (by decide) (hts _ w_3_59) rfl rfl hin2 rfl (by decide +kernel) rfl rfl (Nat.le_of_ble_eq_true rfl) dX5_init_161 (fun H locs hq => ?_)
  obtain ⟨h_0, hzz, ho, hS⟩ := hq
  have h_0 : va_at D vwCl (a, .inr (5, [.int 0, .int 0, .int 0, .ref sz, .ref (sz + 1), .ref (sz + 2), .ref (sz + 3), .ref (sz + 4), .ref (sz + 5), .ref (sz + 6), .ref (sz + 7), .ref (sz + 8), .ref (sz + 9), .ref (sz + 10), .ref (sz + 11), .int 0, .ref (sz + 12), .ref (sz + 13), .ref (sz + 14), .ref (sz + 15), .ref (sz + 16), .ref (sz + 17), .ref (sz + 18), .ref (sz + 19)])) H := h_0
  have hz := hzz.trans hz
  have h_1 := va_at.kept h_1 (ho _ (by show _ ≠ a; omega))
  have h_2 := va_at.kept h_2 (ho _ (by show _ ≠ a; omega))
  have h_3 := va_at.kept h_3 (ho _ (by show _ ≠ a; omega))
  have h_4 := va_at.kept h_4 (ho _ (by show _ ≠ a; omega))
  have h_5 := va_at.kept h_5 (ho _ (by show _ ≠ a; omega))
  have h_6 := va_at.kept h_6 (ho _ (by show _ ≠ a; omega))
  have h_7 := va_at.kept h_7 (ho _ (by show _ ≠ a; omega))
  have h_8 := va_at.kept h_8 (ho _ (by show _ ≠ a; omega))
  have h_9 := va_at.kept h_9 (ho _ (by show _ ≠ a; omega))
  have h_10 := va_at.kept h_10 (ho _ (by show _ ≠ a; omega))
  have h_11 := va_at.kept h_11 (ho _ (by show _ ≠ a; omega))
  have h_12 := va_at.kept h_12 (ho _ (by show _ ≠ a; omega))
  have h_13 := va_at.kept h_13 (ho _ (by show _ ≠ a; omega))
  have h_14 := va_at.kept h_14 (ho _ (by show _ ≠ a; omega))
  have h_15 := va_at.kept h_15 (ho _ (by show _ ≠ a; omega))
  have h_16 := va_at.kept h_16 (ho _ (by show _ ≠ a; omega))
  have h_17 := va_at.kept h_17 (ho _ (by show _ ≠ a; omega))
  have h_18 := va_at.kept h_18 (ho _ (by show _ ≠ a; omega))
  have h_19 := va_at.kept h_19 (ho _ (by show _ ≠ a; omega))
  have h_20 := va_at.kept h_20 (ho _ (by show _ ≠ a; omega))
  exact W.vret hx hb hr (fun t ht hW => ⟨⟨(), rfl, trivial, by rw [ht]; exact hz, by rw [ht]; exact (rw_cons h_0 (rw_cons h_1 (rw_cons h_2 (rw_cons h_3 (rw_cons h_4 (rw_cons h_5 (rw_cons h_6 (rw_cons h_7 (rw_cons h_8 (rw_cons h_9 (rw_cons h_10 (rw_cons h_11 (rw_cons h_12 (rw_cons h_13 (rw_cons h_14 (rw_cons h_15 (rw_cons h_16 (rw_cons h_17 (rw_cons h_18 (rw_cons h_19 (rw_cons h_20 rw_nil)))))))))))))))))))))⟩, hS.F ht⟩) hS.2.2 dX5_init_164

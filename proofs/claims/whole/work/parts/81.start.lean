theorem w_1_4 : (Jvm.Cond.initialized "java/lang/Throwable") ∈ WSall := ws_in (tb1 (List.mem_of_getElem? (i := 4) rfl)) (by decide +kernel)
theorem w_1_14 : (Jvm.Cond.classLink "GuaranteeBookLaw" (8 : Nat) "GuaranteeBook") ∈ WSall := ws_in (tb1 (List.mem_of_getElem? (i := 14) rfl)) (by decide +kernel)
theorem w_1_15 : (Jvm.Cond.instantiable "GuaranteeBook" (10 : Nat)) ∈ WSall := ws_in (tb1 (List.mem_of_getElem? (i := 15) rfl)) (by decide +kernel)
theorem w_1_16 : (Jvm.Cond.methodLink "GuaranteeBookLaw" (45 : Nat) ({ cls := "GuaranteeBook", name := "<init>", desc := "()V" } : Jvm.MethodName)) ∈ WSall := ws_in (tb1 (List.mem_of_getElem? (i := 16) rfl)) (by decide +kernel)
theorem w_1_17 : (Jvm.Cond.instanceMethod ({ cls := "GuaranteeBook", name := "<init>", desc := "()V" } : Jvm.MethodName)) ∈ WSall := ws_in (tb1 (List.mem_of_getElem? (i := 17) rfl)) (by decide +kernel)
theorem w_1_18 : (Jvm.Cond.code ({ cls := "GuaranteeBook", name := "<init>", desc := "()V" } : Jvm.MethodName) prog_1_method_1_code (1 : Nat) (Option.none : Option Jvm.ClassFile.FieldType)) ∈ WSall := ws_in (tb1 (List.mem_of_getElem? (i := 18) rfl)) (by decide +kernel)
theorem w_3_30 : (Jvm.Cond.classLink "GuaranteeBookLaw" (46 : Nat) "GuaranteeBookModel") ∈ WSall := ws_in (tb3 (List.mem_of_getElem? (i := 30) rfl)) (by decide +kernel)
theorem w_3_31 : (Jvm.Cond.instantiable "GuaranteeBookModel" (24 : Nat)) ∈ WSall := ws_in (tb3 (List.mem_of_getElem? (i := 31) rfl)) (by decide +kernel)
theorem w_3_32 : (Jvm.Cond.methodLink "GuaranteeBookLaw" (48 : Nat) ({ cls := "GuaranteeBookModel", name := "<init>", desc := "()V" } : Jvm.MethodName)) ∈ WSall := ws_in (tb3 (List.mem_of_getElem? (i := 32) rfl)) (by decide +kernel)
theorem w_3_33 : (Jvm.Cond.instanceMethod ({ cls := "GuaranteeBookModel", name := "<init>", desc := "()V" } : Jvm.MethodName)) ∈ WSall := ws_in (tb3 (List.mem_of_getElem? (i := 33) rfl)) (by decide +kernel)
theorem w_3_34 : (Jvm.Cond.code ({ cls := "GuaranteeBookModel", name := "<init>", desc := "()V" } : Jvm.MethodName) prog_7_method_1_code (1 : Nat) (Option.none : Option Jvm.ClassFile.FieldType)) ∈ WSall := ws_in (tb3 (List.mem_of_getElem? (i := 34) rfl)) (by decide +kernel)
/-! THE START: the tables' facts out of the claim's own, the first state, the law from its entry -/
theorem arr_p {s : State} {A : Array Value} {ty : FieldType} (h : (Cond.arrayClass ty).before A s = true) : ∃ cA : ClassId, ArrOfT s cA ty ∧ s.vm.findClass ("[" ++ ty.toString) = some cA := by
  obtain ⟨c, k, comp, h1, h2, h3⟩ := Cond.arrayClass_spec h
  exact ⟨c, fun n z => ⟨fun k h => (by cases h), k, h2, comp, h3⟩, h1⟩
theorem arr_o {s : State} {A : Array Value} {C : String} (h : (Cond.arrayOver (.object C)).before A s = true) : ∃ cA : ClassId, ArrOfT s cA (.object C) ∧ va_RA s cA (.object C) := by
  obtain ⟨comp, c, k, h1, h2, h3, h4, h5⟩ := Cond.arrayOver_spec h
  exact ⟨c, fun n z => ⟨fun k h => (by cases h), k, h3, comp, h4⟩, k, comp, h3, h4, h1, h5⟩
def saOf (s : State) (k : Nat) : Nat := match (Term.string "GuaranteeBook" k).eval #[] s none [] s with
  | some (.ref a) => a
  | _ => 0
theorem str_R {s : State} {A : Array Value} {k : Nat} {tx : String} (h : (Cond.stringRef "GuaranteeBook" k tx).before A s = true) : vk_R "GuaranteeBook" k tx (saOf s k) s := by
  cases hc : s.vm.findClass "GuaranteeBook" with
  | none =>
    have h1 := h
    simp only [Cond.before, Cond.holds, Cond.value] at h1
    simp [hc] at h1
  | some cur =>
    obtain ⟨k1, cf, i, a, -, -, -, -, -, he⟩ := Cond.stringRef_spec hc h
    have he : (Term.string "GuaranteeBook" k).eval #[] s none [] s = some (.ref a) := he
    have e : saOf s k = a := by unfold saOf; rw [he]
    rw [e]
    exact ⟨h, he⟩
theorem st_tb : ∀ q ∈ strW, Cond.stringRef "GuaranteeBook" q.1 q.2 ∈ lw_tbl := by decide +kernel
theorem ns_tb : ∀ w ∈ nestW, w ∈ lw_tbl := by decide +kernel
theorem ns_ot : ∀ w ∈ nestW, w.onTables = true := by decide +kernel
set_option maxRecDepth 100000 in
theorem nr_u : Cond.isRef (.static Bundle.tN "UNASSIGNED_STACK" Bundle.steD) ∈ flatC (Jvm.Cond.and given_1 narrow_1) := by decide +kernel
set_option maxRecDepth 100000 in
theorem nr_v : Cond.isRef (.static Bundle.tN "SUPPRESSED_SENTINEL" Bundle.listD) ∈ flatC (Jvm.Cond.and given_1 narrow_1) := by decide +kernel
set_option maxRecDepth 100000 in
theorem nr_n : Cond.not (.castable "java/lang/IllegalStateException" "java/lang/IllegalArgumentException") ∈ flatC (Jvm.Cond.and given_1 narrow_1) := by decide +kernel
theorem wd_start {s : State} {b : Nat} (hts0 : ∀ w ∈ lw_tbl, w.before #[Value.ref b] s = true) (hgv : (Jvm.Cond.and given_1 narrow_1).before #[Value.ref b] s = true) : ∃ (D : va_G) (dA : Nat → ClassId) (sa : Nat → Nat), wd D dA sa s.heap.size s ∧ ncX s := by
  have hts : ∀ w ∈ WSall, w.before #[Value.ref b] s = true := fun w h => hts0 w (List.mem_filter.mp h).1
  have hfl := flat_of_before _ hgv
  obtain ⟨c0, i0, hK0⟩ := u_known (C := RX0) (T := TX0) (N := 10) (n := 10) hts inX0 (hts _ w_1_15)
  obtain ⟨c1, i1, hK1⟩ := u_known (C := RX1) (T := TX1) (N := 11) (n := 11) hts inX1 (hts _ w_2_35)
  obtain ⟨c2, i2, hK2⟩ := u_known (C := RX2) (T := TX2) (N := 2) (n := 2) hts inX2 (hts _ w_2_37)
  obtain ⟨c3, i3, hK3⟩ := u_known (C := RX3) (T := TX3) (N := 4) (n := 4) hts inX3 (hts _ w_2_50)
  obtain ⟨c4, i4, hK4⟩ := u_known (C := RX4) (T := TX4) (N := 6) (n := 6) hts inX4 (hts _ w_1_26)
  obtain ⟨c5, i5, hK5⟩ := u_known (C := RX5) (T := TX5) (N := 24) (n := 24) hts inX5 (hts _ w_3_31)
  obtain ⟨a0, ha0, hb0⟩ := arr_p (hts _ w_1_57)
  obtain ⟨a1, ha1, hb1⟩ := arr_p (hts _ w_1_58)
  obtain ⟨a2, ha2, hb2⟩ := arr_p (hts _ w_1_56)
  have ao3 : (Cond.arrayOver (.object "GuaranteeBook$Guarantee")).before #[Value.ref b] s = true := hts0 _ (tb1 (List.mem_of_getElem? (i := 23) rfl))
  have ao4 : (Cond.arrayOver (.object "GuaranteeBook$Reservation")).before #[Value.ref b] s = true := hts0 _ (tb1 (List.mem_of_getElem? (i := 25) rfl))
  obtain ⟨a3, ha3, hb3⟩ := arr_o ao3
  obtain ⟨a4, ha4, hb4⟩ := arr_o ao4
  refine ⟨(fun k => if k = 0 then c0 else if k = 1 then c1 else if k = 2 then c2 else if k = 3 then c3 else if k = 4 then c4 else c5, fun k => if k = 0 then i0 else if k = 1 then i1 else if k = 2 then i2 else if k = 3 then i3 else if k = 4 then i4 else i5), fun k => if k = 0 then a0 else if k = 1 then a1 else if k = 2 then a2 else if k = 3 then a3 else a4, saOf s, ⟨⟨?_, ?_⟩, Nat.le_refl _, fun w hw => va_Nw.of (ns_ot w hw) (hts0 w (ns_tb w hw)), ao3, ao4, ?_, ?_, fun q hq => str_R (hts0 _ (st_tb q hq))⟩, va_Nc.of (hfl _ nr_n)⟩
  · intro k q hq
    match k, hq with
    | 0, hq => cases hq; exact hK0
    | 1, hq => cases hq; exact hK1
    | 2, hq => cases hq; exact hK2
    | 3, hq => cases hq; exact hK3
    | 4, hq => cases hq; exact hK4
    | 5, hq => cases hq; exact hK5
    | k + 6, hq => simp [vwCl] at hq
  · intro k q hq
    match k, hq with
    | 0, hq => cases hq; exact ⟨ha0, hb0⟩
    | 1, hq => cases hq; exact ⟨ha1, hb1⟩
    | 2, hq => cases hq; exact ⟨ha2, hb2⟩
    | 3, hq => cases hq; exact ⟨ha3, hb3⟩
    | 4, hq => cases hq; exact ⟨ha4, hb4⟩
    | k + 5, hq => simp [tysA] at hq
  · exact vx_Zqof (hts0 _ (tb1 (List.mem_of_getElem? (i := 218) rfl))) (hts _ w_1_4) (hfl _ nr_u) (fun a h => Nat.not_le.mpr h)
  · exact vx_Zqof (hts0 _ (tb1 (List.mem_of_getElem? (i := 220) rfl))) (hts _ w_1_4) (hfl _ nr_v) (fun a h => Nat.not_le.mpr h)

abbrev cB0 (dA : Nat → ClassId) (z : Nat) : va_W := [(z, .inr (0, [.ref (z + 1), .ref ((z + 1) + 1), .ref ((z + 1) + 2), .ref ((z + 1) + 3), .ref ((z + 1) + 4), .ref ((z + 1) + 5), .int 0, .int 0, .int 0, .int 0])), ((z + 1), .inl (dA 3, 20, .inr (.inr (.inr (.inr (fun _ => none)))))), (((z + 1) + 1), .inl (dA 3, 8, .inr (.inr (.inr (.inr (fun _ => none)))))), (((z + 1) + 2), .inl (dA 4, 60, .inr (.inr (.inr (.inr (fun _ => none)))))), (((z + 1) + 3), .inl (dA 2, 4, .inl (fun _ => 0))), (((z + 1) + 4), .inl (dA 0, 4, .inl (fun _ => 0))), (((z + 1) + 5), .inr (4, [.ref ((z + 1) + 6), .ref ((z + 1) + 6 + 1), .int 0, .int 0, .long 0, .int 0])), (((z + 1) + 6), .inl (dA 3, 4, .inr (.inr (.inr (.inr (fun _ => none)))))), (((z + 1) + 6 + 1), .inl (dA 1, 4, .inr (.inl (fun _ => 0))))]
abbrev cM0 (dA : Nat → ClassId) (z : Nat) : va_W := [((z + 9), .inr (5, [.int 0, .int 0, .int 0, .ref (z + 10), .ref ((z + 10) + 1), .ref ((z + 10) + 2), .ref ((z + 10) + 3), .ref ((z + 10) + 4), .ref ((z + 10) + 5), .ref ((z + 10) + 6), .ref ((z + 10) + 7), .ref ((z + 10) + 8), .ref ((z + 10) + 9), .ref ((z + 10) + 10), .ref ((z + 10) + 11), .int 0, .ref ((z + 10) + 12), .ref ((z + 10) + 13), .ref ((z + 10) + 14), .ref ((z + 10) + 15), .ref ((z + 10) + 16), .ref ((z + 10) + 17), .ref ((z + 10) + 18), .ref ((z + 10) + 19)])), ((z + 10), .inl (dA 0, 21, .inl (fun _ => 0))), (((z + 10) + 1), .inl (dA 1, 21, .inr (.inl (fun _ => 0)))), (((z + 10) + 2), .inl (dA 0, 21, .inl (fun _ => 0))), (((z + 10) + 3), .inl (dA 0, 21, .inl (fun _ => 0))), (((z + 10) + 4), .inl (dA 2, 21, .inl (fun _ => 0))), (((z + 10) + 5), .inl (dA 0, 21, .inl (fun _ => 0))), (((z + 10) + 6), .inl (dA 2, 21, .inl (fun _ => 0))), (((z + 10) + 7), .inl (dA 0, 21, .inl (fun _ => 0))), (((z + 10) + 8), .inl (dA 1, 21, .inr (.inl (fun _ => 0)))), (((z + 10) + 9), .inl (dA 1, 21, .inr (.inl (fun _ => 0)))), (((z + 10) + 10), .inl (dA 0, 21, .inl (fun _ => 0))), (((z + 10) + 11), .inl (dA 0, 20, .inl (fun _ => 0))), (((z + 10) + 12), .inl (dA 0, 61, .inl (fun _ => 0))), (((z + 10) + 13), .inl (dA 1, 61, .inr (.inl (fun _ => 0)))), (((z + 10) + 14), .inl (dA 0, 61, .inl (fun _ => 0))), (((z + 10) + 15), .inl (dA 0, 61, .inl (fun _ => 0))), (((z + 10) + 16), .inl (dA 0, 244, .inl (fun _ => 0))), (((z + 10) + 17), .inl (dA 1, 244, .inr (.inl (fun _ => 0)))), (((z + 10) + 18), .inl (dA 2, 4, .inl (fun _ => 0))), (((z + 10) + 19), .inl (dA 0, 4, .inl (fun _ => 0)))]
def al0 (z k i : Nat) : Nat := if k = 0 then z else if k = 7 then z + 1 + i else if k = 4 then z + 6 else if k = 5 then z + 7 else if k = 6 then z + 8 else if k = 8 then z + 9 else if k = 9 then z + 10 + i else z + 30
def σ0 : CS := (fun _ _ _ => 0, fun _ _ _ => 0, fun k => if k = 0 then (fun i j => if i = 0 ∧ j = 5 then some 0 else none) else fun _ _ => none, 0, 1)
def μ0 : CS := (fun _ _ _ => 0, fun _ _ _ => 0, fun _ _ _ => none, 0, 0)
theorem ent0 {dA : Nat → ClassId} {z k i : Nat} {e : va_E} (h : ent dA (al0 z) σ0 μ0 k i = some e) : (k = 0 ∧ i = 0) ∨ (k = 4 ∧ i = 0) ∨ (k = 5 ∧ i = 0) ∨ (k = 6 ∧ i = 0) ∨ (k = 7 ∧ i < 5) ∨ (k = 8 ∧ i = 0) ∨ (k = 9 ∧ i < 20) ∨ (k = 10 ∧ i = 0) := by
  have e1 : nG σ0 = 0 := rfl
  have e2 : nR σ0 = 1 := rfl
  unfold ent at h
  split at h
  · unfold cellC at h
    rw [e1, e2] at h
    split at h
    · split at h
      · omega
      · cases h
    · split at h
      · omega
      · cases h
    · split at h
      · omega
      · cases h
    · split at h
      · omega
      · cases h
    · split at h
      · omega
      · cases h
    · split at h
      · omega
      · cases h
    · split at h
      · omega
      · cases h
    · by_cases q : i < 5
      · omega
      · rw [if_neg (by omega), if_neg (by omega), if_neg (by omega), if_neg (by omega), if_neg (by omega)] at h
        cases h
    · cases h
  · unfold cellM at h
    split at h
    · split at h
      · omega
      · cases h
    · split at h
      · omega
      · cases h
    · split at h
      · omega
      · cases h
    · cases h
theorem iv_start {D : va_G} {dA : Nat → ClassId} {z : Nat} {H : Heap} (hB : va_P D vwCl (cB0 dA z) H) (hM : va_P D vwCl (cM0 dA z) H) (hO : va_at D vwCl (z + 30, .inl (dA 1, 1, .inr (.inl (fun _ => 0)))) H) : Inv D dA z (al0 z) σ0 μ0 H := by
  refine ⟨fun k i e he => ?_, fun k i k' i' e e' he he' hq => ?_⟩
  · rcases ent0 he with ⟨rfl, rfl⟩ | ⟨rfl, rfl⟩ | ⟨rfl, rfl⟩ | ⟨rfl, rfl⟩ | ⟨rfl, hi⟩ | ⟨rfl, rfl⟩ | ⟨rfl, hi⟩ | ⟨rfl, rfl⟩
    · cases he; exact ⟨rw_get hB 0 rfl, by show z ≤ z; omega⟩
    · cases he; exact ⟨rw_get hB 6 rfl, by show z ≤ z + 6; omega⟩
    · cases he; exact ⟨rw_get hB 7 rfl, by show z ≤ z + 7; omega⟩
    · cases he; exact ⟨rw_get hB 8 rfl, by show z ≤ z + 8; omega⟩
    · refine ⟨?_, by show z ≤ z + 1 + i; omega⟩
      have hi5 : i = 0 ∨ i = 1 ∨ i = 2 ∨ i = 3 ∨ i = 4 := by omega
      rcases hi5 with rfl | rfl | rfl | rfl | rfl
      · cases he; exact rw_get hB 1 rfl
      · cases he; exact rw_get hB 2 rfl
      · cases he; exact rw_get hB 3 rfl
      · cases he; exact rw_get hB 4 rfl
      · cases he; exact rw_get hB 5 rfl
    · cases he; exact ⟨rw_get hM 0 rfl, by show z ≤ z + 9; omega⟩
    · refine ⟨?_, by show z ≤ z + 10 + i; omega⟩
      have hi20 : i = 0 ∨ i = 1 ∨ i = 2 ∨ i = 3 ∨ i = 4 ∨ i = 5 ∨ i = 6 ∨ i = 7 ∨ i = 8 ∨ i = 9 ∨ i = 10 ∨ i = 11 ∨ i = 12 ∨ i = 13 ∨ i = 14 ∨ i = 15 ∨ i = 16 ∨ i = 17 ∨ i = 18 ∨ i = 19 := by omega
      rcases hi20 with rfl | rfl | rfl | rfl | rfl | rfl | rfl | rfl | rfl | rfl | rfl | rfl | rfl | rfl | rfl | rfl | rfl | rfl | rfl | rfl
      · cases he; exact rw_get hM 1 rfl
      · cases he; exact rw_get hM 2 rfl
      · cases he; exact rw_get hM 3 rfl
      · cases he; exact rw_get hM 4 rfl
      · cases he; exact rw_get hM 5 rfl
      · cases he; exact rw_get hM 6 rfl
      · cases he; exact rw_get hM 7 rfl
      · cases he; exact rw_get hM 8 rfl
      · cases he; exact rw_get hM 9 rfl
      · cases he; exact rw_get hM 10 rfl
      · cases he; exact rw_get hM 11 rfl
      · cases he; exact rw_get hM 12 rfl
      · cases he; exact rw_get hM 13 rfl
      · cases he; exact rw_get hM 14 rfl
      · cases he; exact rw_get hM 15 rfl
      · cases he; exact rw_get hM 16 rfl
      · cases he; exact rw_get hM 17 rfl
      · cases he; exact rw_get hM 18 rfl
      · cases he; exact rw_get hM 19 rfl
      · cases he; exact rw_get hM 20 rfl
    · cases he; exact ⟨hO, by show z ≤ z + 30; omega⟩
  · have a1 : ∀ k i, ((k = 0 ∧ i = 0) ∨ (k = 4 ∧ i = 0) ∨ (k = 5 ∧ i = 0) ∨ (k = 6 ∧ i = 0) ∨ (k = 7 ∧ i < 5) ∨ (k = 8 ∧ i = 0) ∨ (k = 9 ∧ i < 20) ∨ (k = 10 ∧ i = 0)) → al0 z k i = z + (if k = 0 then 0 else if k = 7 then 1 + i else if k = 4 then 6 else if k = 5 then 7 else if k = 6 then 8 else if k = 8 then 9 else if k = 9 then 10 + i else 30) := fun k i _ => by
      unfold al0
      repeat' split
      all_goals omega
    have h1 := ent0 he
    have h2 := ent0 he'
    rw [a1 k i h1, a1 k' i' h2] at hq
    rcases h1 with ⟨rfl, rfl⟩ | ⟨rfl, rfl⟩ | ⟨rfl, rfl⟩ | ⟨rfl, rfl⟩ | ⟨rfl, hi⟩ | ⟨rfl, rfl⟩ | ⟨rfl, hi⟩ | ⟨rfl, rfl⟩ <;> rcases h2 with ⟨rfl, rfl⟩ | ⟨rfl, rfl⟩ | ⟨rfl, rfl⟩ | ⟨rfl, rfl⟩ | ⟨rfl, hi2⟩ | ⟨rfl, rfl⟩ | ⟨rfl, hi2⟩ | ⟨rfl, rfl⟩ <;> simp at hq ⊢ <;> omega
theorem Rel_start : Rel σ0 μ0 0 0 [] := by
  refine ⟨⟨by omega, by omega, rfl, rfl, rfl, rfl, rfl, rfl, rfl, rfl, fun i hi => by omega, fun i hi => by omega, fun d hd => ⟨rfl, rfl⟩⟩, ?_, ⟨⟨rfl, fun k g hk => by simp at hk⟩, List.nodup_nil, fun g hg => by omega, fun h hh => rfl⟩, fun i hi => by omega, fun i hi => by omega, ⟨⟨0, by omega, rfl, fun k hk => by omega⟩, rfl⟩, rfl, ⟨fun j hj => rfl, fun g hg => ⟨rfl, rfl, rfl⟩, rfl⟩⟩
  intro k i j g e
  by_cases c : k = 0
  · subst c
    rw [if_pos (Or.inl rfl)]
    have e : (if i = 0 ∧ j = 5 then some 0 else none) = some g := e
    split at e
    · cases e; decide
    · cases e
  · have e2 : fR σ0 k = fun _ _ => none := if_neg c
    rw [e2] at e
    cases e
theorem cB0_lt {dA : Nat → ClassId} {z : Nat} : ∀ (k : Nat) (q : Nat × va_E), (cB0 dA z)[k]? = some q → q.1 < z + 9 := by
  intro k q hq
  match k, hq with
  | 0, hq => cases hq; show _ < z + 9; omega
  | 1, hq => cases hq; show _ < z + 9; omega
  | 2, hq => cases hq; show _ < z + 9; omega
  | 3, hq => cases hq; show _ < z + 9; omega
  | 4, hq => cases hq; show _ < z + 9; omega
  | 5, hq => cases hq; show _ < z + 9; omega
  | 6, hq => cases hq; show _ < z + 9; omega
  | 7, hq => cases hq; show _ < z + 9; omega
  | 8, hq => cases hq; show _ < z + 9; omega
  | k + 9, hq => simp [cB0] at hq
theorem pk_keep {D : va_G} {ws : va_W} {H H1 : Heap} (h : va_P D vwCl ws H) (hk : ∀ q : Nat, q < H.size → H1[q]? = H[q]?) : va_P D vwCl ws H1 := fun k q hq => va_at.kept (h k q hq) (hk _ (va_at.lt (h k q hq)))
set_option maxHeartbeats 4000000 in
set_option maxRecDepth 100000 in
theorem whole_start {p : Program} {e : Env} {s : State} {m : MethodId} {below : List Frame} {meth : Method} {c : Code} (l : Launch) (hlt : l.stackTraces = false) {b L : Nat} {xs : Nat → Int32} (hL : L ≤ 4096) (C0 : lw_At p s m meth c b L xs) : W p l e room_1 s m #[Value.ref b] below meth c s.heap [] 0 0 (lw_Z below #[Value.ref b] s) (entryFrame m ([Value.ref b] : List Value).toArray 8) := by
  obtain ⟨hx, hb, hr, hml, hown, hts0, hX, hbl, hlocks, hgv⟩ := C0
  have hown : s.vm.findClass RL = some m.cls := hown
  have hts : ∀ w ∈ WSall, w.before #[Value.ref b] s = true := fun w h => hts0 w (List.mem_filter.mp h).1
  obtain ⟨D, dA, sa, hwd, hnc⟩ := wd_start hts0 hgv
  have hbA : ¬ (fun q => s.heap.size ≤ q) b := Nat.not_le.mpr hbl
  have CC : lwC p l s m meth c b L xs D dA sa s.heap.size := ⟨hx, hb, hml, hown, hts, hX, hbl, hbA, hlt, hwd, hnc⟩
  have hK := hwd.1
  have hS : va_S (fun q => s.heap.size ≤ q) s.heap s.heap [] := va_S.rf
  have hl := lv_entry ([.ref b]) (n := 8) (Nat.le_of_ble_eq_true rfl)
  rw [lg_entry_eq]
  generalize (lg_sl ([.ref b]) ++ List.replicate (8 - (lg_sl ([.ref b])).length) Slot.unset).toArray = ls at hl ⊢
  have hl : lv_has ls 8 [(0, .ref b)] := hl
  refine sx_new (ci := 0) (fs := [.null, .null, .null, .null, .null, .null, .int 0, .int 0, .int 0, .int 0]) (C := RX0) (T := TX0) (N := 10) hx hb hts inX0 tyX0 okX0 hown (hts _ w_1_14) (hts _ w_1_15) (hts _ w_1_1) hK hS rfl (by decide +kernel) (Nat.le_of_ble_eq_true rfl) (Nat.le_of_ble_eq_true rfl) dL_law_0 (fun z H9 hq => ?_)
  obtain ⟨hqq, h_0, hzz, hold, hS⟩ := hq
  have hz : H9.size = z + 1 := by rw [hzz, hqq]
  have hlo : s.heap.size ≤ z := Nat.le_of_eq hqq.symm
  refine W.widen (k := 1) (n := 10) (Nat.le_of_ble_eq_true rfl) (Nat.le_of_ble_eq_true rfl) ?_
  refine lv_dup hx hb dL_law_3 rfl ?_
  refine va_callv (sx_runI (n := 0) (As := []) (rest := [.ref z]) ⟨hx, hb, hml, hown, hts⟩ (i_Book l D dA sa s.heap.size z (z + 1) hlo) (gdI w_1_18) rfl rfl rfl (hts _ w_1_1) (hts _ w_1_16) (hts _ w_1_17) rfl (by decide +kernel) ⟨Nat.le_of_ble_eq_true rfl, Nat.le_of_ble_eq_true rfl⟩ ⟨rw_bl, fun U hU hW => ⟨rfl, ⟨by rw [hU]; exact hz, by rw [hU]; exact rw_cons h_0 rw_nil⟩, wd_use hwd hS hU hW⟩⟩ rfl rfl hl.1 rfl (sx_room (Nat.le_of_ble_eq_true rfl)) dL_law_4 ⟨Nat.le_of_ble_eq_true rfl, Nat.le_of_ble_eq_true rfl⟩) hS (fun (q : Nat) _ h => (by have h : q = z ∨ z + 1 ≤ q := h; rcases h with h | h <;> (show s.heap.size ≤ q; omega))) (fun (q : Nat) h => (by have h : q = z ∨ z + 1 ≤ q := h; rcases h with h | h <;> (show s.heap.size ≤ q; omega))) (fun u9 T9 H8 locs ht9 hvm9 e9 hB9 hz9 hk9 hS => ?_)
  obtain ⟨hz8, hPB⟩ := hB9
  rw [ht9] at hz8 hPB
  have hPB : va_P D vwCl (cB0 dA z) H8 := hPB
  have hz8 : H8.size = z + 9 := hz8
  clear hk9
  refine W.widen (k := 9) (n := 120) (Nat.le_of_ble_eq_true rfl) (Nat.le_of_ble_eq_true rfl) ?_
  refine lv_astore_n (lv' := [(1, .ref z), (0, .ref b)]) hx hb dL_law_7 rfl hl (by decide) rfl (fun ls hl => ?_)
  refine sx_new (ci := 5) (fs := [.int 0, .int 0, .int 0, .null, .null, .null, .null, .null, .null, .null, .null, .null, .null, .null, .null, .int 0, .null, .null, .null, .null, .null, .null, .null, .null]) (C := RX5) (T := TX5) (N := 24) hx hb hts inX5 tyX5 okX5 hown (hts _ w_3_30) (hts _ w_3_31) (hts _ w_1_3) hK hS rfl (by decide +kernel) (Nat.le_of_ble_eq_true rfl) (Nat.le_of_ble_eq_true rfl) dL_law_8 (fun q8 H7 hq => ?_)
  obtain ⟨hqq2, h_1, hzz2, hold2, hS⟩ := hq
  rw [hz8] at hqq2 hzz2
  subst hqq2
  have hz7 : H7.size = z + 10 := hzz2
  have hPB := pk_keep hPB hold2
  refine W.widen (k := 10) (n := 144) (Nat.le_of_ble_eq_true rfl) (Nat.le_of_ble_eq_true rfl) ?_
  refine lv_dup hx hb dL_law_11 rfl ?_
  refine va_callv (sx_runI (n := 0) (As := []) (rest := [.ref (z + 9)]) ⟨hx, hb, hml, hown, hts⟩ (i_Model l D dA sa s.heap.size (z + 9) (z + 10) (by omega)) (gdI w_3_34) rfl rfl rfl (hts _ w_1_3) (hts _ w_3_32) (hts _ w_3_33) rfl (by decide +kernel) ⟨Nat.le_of_ble_eq_true rfl, Nat.le_of_ble_eq_true rfl⟩ ⟨rw_bl, fun U hU hW => ⟨rfl, ⟨by rw [hU]; exact hz7, by rw [hU]; exact rw_cons h_1 rw_nil⟩, wd_use hwd hS hU hW⟩⟩ rfl rfl hl.1 rfl (sx_room (Nat.le_of_ble_eq_true rfl)) dL_law_12 ⟨Nat.le_of_ble_eq_true rfl, Nat.le_of_ble_eq_true rfl⟩) hS (fun (q : Nat) _ h => (by have h : q = z + 9 ∨ z + 10 ≤ q := h; rcases h with h | h <;> (show s.heap.size ≤ q; omega))) (fun (q : Nat) h => (by have h : q = z + 9 ∨ z + 10 ≤ q := h; rcases h with h | h <;> (show s.heap.size ≤ q; omega))) (fun u9 T9 H6 locs ht9 hvm9 e9 hB9 hz9 hk9 hS => ?_)
  obtain ⟨hz6, hPM⟩ := hB9
  rw [ht9] at hz6 hPM
  have hPM : va_P D vwCl (cM0 dA z) H6 := hPM
  have hz6 : H6.size = z + 30 := hz6
  have hPB : va_P D vwCl (cB0 dA z) H6 := fun k q hq => va_at.kept (hPB k q hq) (hk9 _ (va_at.lt (hPB k q hq)) (by
    have := cB0_lt k q hq
    show ¬ (q.1 = z + 9 ∨ z + 10 ≤ q.1)
    omega))
  clear hk9
  refine W.widen (k := 30) (n := 1135) (Nat.le_of_ble_eq_true rfl) (Nat.le_of_ble_eq_true rfl) ?_
  refine lv_astore_n (lv' := [(2, .ref (z + 9)), (1, .ref z), (0, .ref b)]) hx hb dL_law_15 rfl hl (by decide) rfl (fun ls hl => ?_)
  refine lv_iconst (v := 1) hx hb dL_law_16 (by decide) ?_
  refine sx_newa (atype := .long) (a0 := (1, .inr (.inl (fun _ => 0)))) hx hb (hts _ w_1_58) rfl hK hS 1 rfl (fun _ h => by cases h) (by first | exact vp_cell_l _ _ _ | rfl) (by decide) (show (1 : Int32).toNatClampNeg = 1 from rfl) (by decide) (Nat.le_of_ble_eq_true rfl) (Nat.le_of_ble_eq_true rfl) dL_law_17 (fun q6 H5 hq => ?_)
  obtain ⟨hqq3, h_2, hzz3, hold3, hS⟩ := hq
  rw [hz6] at hqq3 hzz3
  subst hqq3
  have hPB := pk_keep hPB hold3
  have hPM := pk_keep hPM hold3
  have hI0 : Inv D dA z (al0 z) σ0 μ0 H5 := iv_start hPB hPM h_2
  have hI : Inv D dA s.heap.size (al0 z) σ0 μ0 H5 := by rw [← hqq]; exact hI0
  refine W.widen (k := 40) (n := 2000) (Nat.le_of_ble_eq_true rfl) (Nat.le_of_ble_eq_true rfl) ?_
  refine lv_astore_n (lv' := [(3, .ref (z + 30)), (2, .ref (z + 9)), (1, .ref z), (0, .ref b)]) hx hb dL_law_19 rfl hl (by decide) rfl (fun ls hl => ?_)
  refine lv_iconst (v := 0) hx hb dL_law_20 (by decide) ?_
  refine lv_istore (lv' := [(4, .int 0), (3, .ref (z + 30)), (2, .ref (z + 9)), (1, .ref z), (0, .ref b)]) hx hb dL_law_21 hl (by decide) rfl (fun ls hl => ?_)
  have hl := lv_sub hl [4, 3, 2, 1, 0] rfl
  have hl : lv_has ls 8 (lwV b (nI (8 * 0)) (al0 z)) := hl
  exact law_loop hL CC hr hlocks (L + 1) 0 (by omega) (by omega) (al0 z) σ0 μ0 0 0 [] H5 locs ls Rel_start hI hS hl

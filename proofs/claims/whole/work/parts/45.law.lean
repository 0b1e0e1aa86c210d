/-! THE LAW'S OWN METHODS: an answer or the number of what was thrown -/
theorem gdW {y : MethodName} {own : String} {ix : Nat} {c : Cond} (h1 : .methodLink own ix y ∈ WSall) (h2 : .static y ∈ WSall) (h3 : .initialized y.cls ∈ WSall) (h5 : c ∈ WSall) : GoodIn WSall (va_wsS own ix y (c :: WSall)) := by
  intro w hw
  have hm : w ∈ WSall := by
    simp only [va_wsS, List.cons_append, List.nil_append, List.mem_cons] at hw
    rcases hw with rfl | rfl | rfl | rfl | h
    · exact h1
    · exact h2
    · exact h3
    · exact h5
    · exact h
  exact ⟨hm, gw hm⟩
def ncX (U : State) : Prop := va_Nc "java/lang/IllegalStateException" "java/lang/IllegalArgumentException" U
def ivN (D : va_G) (dA : Nat → ClassId) (sa : Nat → Nat) (lo : Nat) (al : Nat → Nat → Nat) (σ μ : CS) (U : State) : Prop := Inv D dA lo al σ μ U.heap ∧ wd D dA sa lo U ∧ ncX U
theorem ivn_bl {D : va_G} {dA : Nat → ClassId} {sa : Nat → Nat} {lo : Nat} {al : Nat → Nat → Nat} {σ μ : CS} {av : List Value} : FrameBlind (va_Pc av (ivN D dA sa lo al σ μ)) := fun a U g mk q => ⟨q.1, q.2.1, wd_calling q.2.2.1, va_Nc.moved (u := U) (U := U.calling g mk a) (Vm.Alike.refl U.vm) q.2.2.2⟩
def ivH (D : va_G) (dA : Nat → ClassId) (lo : Nat) (u : CS × CS × (Nat → Nat → Nat)) (t : State) : Prop := Inv D dA lo u.2.2 u.1 u.2.1 t.heap
theorem iv_giveH {D : va_G} {dA : Nat → ClassId} {lo : Nat} {al : Nat → Nat → Nat} {σ μ : CS} {t : State} {H : Heap} (ht : t.heap = H) (h : Inv D dA lo al σ μ H) : ivH D dA lo (σ, μ, al) t := by unfold ivH; rw [ht]; exact h
theorem iv_takeH {D : va_G} {dA : Nat → ClassId} {lo : Nat} {u : CS × CS × (Nat → Nat → Nat)} {t : State} {H : Heap} (ht : t.heap = H) (h : ivH D dA lo u t) : Inv D dA lo u.2.2 u.1 u.2.1 H := by rw [← ht]; exact h
def hP32 (al : Nat → Nat → Nat) (μ : CS) (c : Int32 × Int32 × CS) (z : Int32) (u : CS × CS × (Nat → Nat → Nat)) : Prop := z = c.1 ∧ u.1 = c.2.2 ∧ u.2.1 = (if c.1 = 0 then uL μ 10 0 0 c.2.1.toInt64 else μ) ∧ agree al u.2.2
def hP64 (al : Nat → Nat → Nat) (μ : CS) (c : Int32 × Int64 × CS) (z : Int32) (u : CS × CS × (Nat → Nat → Nat)) : Prop := z = c.1 ∧ u.1 = c.2.2 ∧ u.2.1 = (if c.1 = 0 then uL μ 10 0 0 c.2.1 else μ) ∧ agree al u.2.2
theorem x_cGu {σ : CS} {n : Nat} {L : Nat → List Nat} {h : Int32} {a : Int64} {u d one rt : Int32} : (cGu σ n L h a u d one rt).1 ≠ 0 → (cGu σ n L h a u d one rt).2.2 = σ := by
  unfold cGu
  repeat' split
  all_goals simp
theorem x_cRes {σ : CS} {r : Nat} {L : Nat → List Nat} {d h : Int32} {x : Int64} : (cRes σ r L d h x).1 ≠ 0 → (cRes σ r L d h x).2.2 = σ := by
  unfold cRes
  repeat' split
  all_goals simp
theorem x_cEnd {σ : CS} {r : Nat} {x how : Int32} : (cEnd σ r x how).1 ≠ 0 → (cEnd σ r x how).2.2 = σ := by
  unfold cEnd
  repeat' split
  all_goals simp
theorem x_cReduce {σ : CS} {r : Nat} {x : Int32} {c : Int64} : (cReduce σ r x c).1 ≠ 0 → (cReduce σ r x c).2.2 = σ := by
  unfold cReduce
  repeat' split
  all_goals simp
theorem x_cClaim {σ : CS} {r : Nat} {x : Int32} {c : Int64} : (cClaim σ r x c).1 ≠ 0 → (cClaim σ r x c).2.2 = σ := by
  unfold cClaim
  repeat' split
  all_goals simp
theorem x_cInterest {σ : CS} {n : Nat} {x : Int32} : (cInterest σ n x).1 ≠ 0 → (cInterest σ n x).2.2 = σ := by
  unfold cInterest
  repeat' split
  all_goals simp
theorem x_cLook {σ : CS} {n : Nat} {x w : Int32} : (cLook σ n x w).1 ≠ 0 → (cLook σ n x w).2.2 = σ := by
  unfold cLook
  repeat' split
  all_goals simp
theorem x_cOf {σ : CS} {r : Nat} {x w : Int32} : (cOf σ r x w).1 ≠ 0 → (cOf σ r x w).2.2 = σ := by
  unfold cOf
  repeat' split
  all_goals simp
theorem w_1_178 : (Jvm.Cond.classLink "GuaranteeBookLaw" (13 : Nat) "java/lang/IllegalArgumentException") ∈ WSall := ws_in (tb1 (List.mem_of_getElem? (i := 178) rfl)) (by decide +kernel)
theorem w_1_179 : (Jvm.Cond.classLink "GuaranteeBookLaw" (15 : Nat) "java/lang/IllegalStateException") ∈ WSall := ws_in (tb1 (List.mem_of_getElem? (i := 179) rfl)) (by decide +kernel)
theorem w_1_180 : (Jvm.Cond.methodLink "GuaranteeBookLaw" (7 : Nat) ({ cls := "GuaranteeBook", name := "guarantee", desc := "(IJIIZI)I" } : Jvm.MethodName)) ∈ WSall := ws_in (tb1 (List.mem_of_getElem? (i := 180) rfl)) (by decide +kernel)
theorem w_1_181 : (Jvm.Cond.instanceMethod ({ cls := "GuaranteeBook", name := "guarantee", desc := "(IJIIZI)I" } : Jvm.MethodName)) ∈ WSall := ws_in (tb1 (List.mem_of_getElem? (i := 181) rfl)) (by decide +kernel)
theorem w_1_182 : (Jvm.Cond.selects "GuaranteeBook" ({ cls := "GuaranteeBook", name := "guarantee", desc := "(IJIIZI)I" } : Jvm.MethodName) ({ cls := "GuaranteeBook", name := "guarantee", desc := "(IJIIZI)I" } : Jvm.MethodName)) ∈ WSall := ws_in (tb1 (List.mem_of_getElem? (i := 182) rfl)) (by decide +kernel)
theorem w_1_183 : (Jvm.Cond.code ({ cls := "GuaranteeBook", name := "guarantee", desc := "(IJIIZI)I" } : Jvm.MethodName) prog_1_method_2_code (10 : Nat) (Option.some Jvm.ClassFile.FieldType.int)) ∈ WSall := ws_in (tb1 (List.mem_of_getElem? (i := 183) rfl)) (by decide +kernel)
theorem w_2_122 : (Jvm.Cond.methodLink "GuaranteeBookLaw" (17 : Nat) ({ cls := "GuaranteeBook", name := "reserve", desc := "(IIJ)I" } : Jvm.MethodName)) ∈ WSall := ws_in (tb2 (List.mem_of_getElem? (i := 122) rfl)) (by decide +kernel)
theorem w_2_123 : (Jvm.Cond.instanceMethod ({ cls := "GuaranteeBook", name := "reserve", desc := "(IIJ)I" } : Jvm.MethodName)) ∈ WSall := ws_in (tb2 (List.mem_of_getElem? (i := 123) rfl)) (by decide +kernel)
theorem w_2_124 : (Jvm.Cond.selects "GuaranteeBook" ({ cls := "GuaranteeBook", name := "reserve", desc := "(IIJ)I" } : Jvm.MethodName) ({ cls := "GuaranteeBook", name := "reserve", desc := "(IIJ)I" } : Jvm.MethodName)) ∈ WSall := ws_in (tb2 (List.mem_of_getElem? (i := 124) rfl)) (by decide +kernel)
theorem w_2_125 : (Jvm.Cond.code ({ cls := "GuaranteeBook", name := "reserve", desc := "(IIJ)I" } : Jvm.MethodName) prog_1_method_4_code (5 : Nat) (Option.some Jvm.ClassFile.FieldType.int)) ∈ WSall := ws_in (tb2 (List.mem_of_getElem? (i := 125) rfl)) (by decide +kernel)
theorem w_2_164 : (Jvm.Cond.methodLink "GuaranteeBookLaw" (21 : Nat) ({ cls := "GuaranteeBook", name := "end", desc := "(II)I" } : Jvm.MethodName)) ∈ WSall := ws_in (tb2 (List.mem_of_getElem? (i := 164) rfl)) (by decide +kernel)
theorem w_2_165 : (Jvm.Cond.instanceMethod ({ cls := "GuaranteeBook", name := "end", desc := "(II)I" } : Jvm.MethodName)) ∈ WSall := ws_in (tb2 (List.mem_of_getElem? (i := 165) rfl)) (by decide +kernel)
theorem w_2_166 : (Jvm.Cond.selects "GuaranteeBook" ({ cls := "GuaranteeBook", name := "end", desc := "(II)I" } : Jvm.MethodName) ({ cls := "GuaranteeBook", name := "end", desc := "(II)I" } : Jvm.MethodName)) ∈ WSall := ws_in (tb2 (List.mem_of_getElem? (i := 166) rfl)) (by decide +kernel)
theorem w_2_167 : (Jvm.Cond.code ({ cls := "GuaranteeBook", name := "end", desc := "(II)I" } : Jvm.MethodName) prog_1_method_5_code (4 : Nat) (Option.some Jvm.ClassFile.FieldType.int)) ∈ WSall := ws_in (tb2 (List.mem_of_getElem? (i := 167) rfl)) (by decide +kernel)
theorem w_2_184 : (Jvm.Cond.methodLink "GuaranteeBookLaw" (25 : Nat) ({ cls := "GuaranteeBook", name := "reduce", desc := "(IJ)J" } : Jvm.MethodName)) ∈ WSall := ws_in (tb2 (List.mem_of_getElem? (i := 184) rfl)) (by decide +kernel)
theorem w_2_185 : (Jvm.Cond.instanceMethod ({ cls := "GuaranteeBook", name := "reduce", desc := "(IJ)J" } : Jvm.MethodName)) ∈ WSall := ws_in (tb2 (List.mem_of_getElem? (i := 185) rfl)) (by decide +kernel)
theorem w_2_186 : (Jvm.Cond.selects "GuaranteeBook" ({ cls := "GuaranteeBook", name := "reduce", desc := "(IJ)J" } : Jvm.MethodName) ({ cls := "GuaranteeBook", name := "reduce", desc := "(IJ)J" } : Jvm.MethodName)) ∈ WSall := ws_in (tb2 (List.mem_of_getElem? (i := 186) rfl)) (by decide +kernel)
theorem w_2_187 : (Jvm.Cond.code ({ cls := "GuaranteeBook", name := "reduce", desc := "(IJ)J" } : Jvm.MethodName) prog_1_method_6_code (5 : Nat) (Option.some Jvm.ClassFile.FieldType.long)) ∈ WSall := ws_in (tb2 (List.mem_of_getElem? (i := 187) rfl)) (by decide +kernel)
theorem w_2_201 : (Jvm.Cond.methodLink "GuaranteeBookLaw" (29 : Nat) ({ cls := "GuaranteeBook", name := "claim", desc := "(IJ)J" } : Jvm.MethodName)) ∈ WSall := ws_in (tb2 (List.mem_of_getElem? (i := 201) rfl)) (by decide +kernel)
theorem w_2_202 : (Jvm.Cond.instanceMethod ({ cls := "GuaranteeBook", name := "claim", desc := "(IJ)J" } : Jvm.MethodName)) ∈ WSall := ws_in (tb2 (List.mem_of_getElem? (i := 202) rfl)) (by decide +kernel)
theorem w_2_203 : (Jvm.Cond.selects "GuaranteeBook" ({ cls := "GuaranteeBook", name := "claim", desc := "(IJ)J" } : Jvm.MethodName) ({ cls := "GuaranteeBook", name := "claim", desc := "(IJ)J" } : Jvm.MethodName)) ∈ WSall := ws_in (tb2 (List.mem_of_getElem? (i := 203) rfl)) (by decide +kernel)
theorem w_2_204 : (Jvm.Cond.code ({ cls := "GuaranteeBook", name := "claim", desc := "(IJ)J" } : Jvm.MethodName) prog_1_method_7_code (7 : Nat) (Option.some Jvm.ClassFile.FieldType.long)) ∈ WSall := ws_in (tb2 (List.mem_of_getElem? (i := 204) rfl)) (by decide +kernel)
theorem w_2_218 : (Jvm.Cond.methodLink "GuaranteeBookLaw" (32 : Nat) ({ cls := "GuaranteeBook", name := "interest", desc := "(I)J" } : Jvm.MethodName)) ∈ WSall := ws_in (tb2 (List.mem_of_getElem? (i := 218) rfl)) (by decide +kernel)
theorem w_2_219 : (Jvm.Cond.instanceMethod ({ cls := "GuaranteeBook", name := "interest", desc := "(I)J" } : Jvm.MethodName)) ∈ WSall := ws_in (tb2 (List.mem_of_getElem? (i := 219) rfl)) (by decide +kernel)
theorem w_2_220 : (Jvm.Cond.selects "GuaranteeBook" ({ cls := "GuaranteeBook", name := "interest", desc := "(I)J" } : Jvm.MethodName) ({ cls := "GuaranteeBook", name := "interest", desc := "(I)J" } : Jvm.MethodName)) ∈ WSall := ws_in (tb2 (List.mem_of_getElem? (i := 220) rfl)) (by decide +kernel)
theorem w_2_221 : (Jvm.Cond.code ({ cls := "GuaranteeBook", name := "interest", desc := "(I)J" } : Jvm.MethodName) prog_1_method_11_code (3 : Nat) (Option.some Jvm.ClassFile.FieldType.long)) ∈ WSall := ws_in (tb2 (List.mem_of_getElem? (i := 221) rfl)) (by decide +kernel)
theorem w_2_227 : (Jvm.Cond.classLink "GuaranteeBookLaw" (40 : Nat) "java/lang/IndexOutOfBoundsException") ∈ WSall := ws_in (tb2 (List.mem_of_getElem? (i := 227) rfl)) (by decide +kernel)
theorem w_2_228 : (Jvm.Cond.methodLink "GuaranteeBookLaw" (36 : Nat) ({ cls := "GuaranteeBook", name := "look", desc := "(II)J" } : Jvm.MethodName)) ∈ WSall := ws_in (tb2 (List.mem_of_getElem? (i := 228) rfl)) (by decide +kernel)
theorem w_2_229 : (Jvm.Cond.instanceMethod ({ cls := "GuaranteeBook", name := "look", desc := "(II)J" } : Jvm.MethodName)) ∈ WSall := ws_in (tb2 (List.mem_of_getElem? (i := 229) rfl)) (by decide +kernel)
theorem w_2_230 : (Jvm.Cond.selects "GuaranteeBook" ({ cls := "GuaranteeBook", name := "look", desc := "(II)J" } : Jvm.MethodName) ({ cls := "GuaranteeBook", name := "look", desc := "(II)J" } : Jvm.MethodName)) ∈ WSall := ws_in (tb2 (List.mem_of_getElem? (i := 230) rfl)) (by decide +kernel)
theorem w_2_231 : (Jvm.Cond.code ({ cls := "GuaranteeBook", name := "look", desc := "(II)J" } : Jvm.MethodName) prog_1_method_14_code (4 : Nat) (Option.some Jvm.ClassFile.FieldType.long)) ∈ WSall := ws_in (tb2 (List.mem_of_getElem? (i := 231) rfl)) (by decide +kernel)
theorem w_3_16 : (Jvm.Cond.methodLink "GuaranteeBookLaw" (42 : Nat) ({ cls := "GuaranteeBook", name := "of", desc := "(II)J" } : Jvm.MethodName)) ∈ WSall := ws_in (tb3 (List.mem_of_getElem? (i := 16) rfl)) (by decide +kernel)
theorem w_3_17 : (Jvm.Cond.instanceMethod ({ cls := "GuaranteeBook", name := "of", desc := "(II)J" } : Jvm.MethodName)) ∈ WSall := ws_in (tb3 (List.mem_of_getElem? (i := 17) rfl)) (by decide +kernel)
theorem w_3_18 : (Jvm.Cond.selects "GuaranteeBook" ({ cls := "GuaranteeBook", name := "of", desc := "(II)J" } : Jvm.MethodName) ({ cls := "GuaranteeBook", name := "of", desc := "(II)J" } : Jvm.MethodName)) ∈ WSall := ws_in (tb3 (List.mem_of_getElem? (i := 18) rfl)) (by decide +kernel)
theorem w_3_19 : (Jvm.Cond.code ({ cls := "GuaranteeBook", name := "of", desc := "(II)J" } : Jvm.MethodName) prog_1_method_15_code (4 : Nat) (Option.some Jvm.ClassFile.FieldType.long)) ∈ WSall := ws_in (tb3 (List.mem_of_getElem? (i := 19) rfl)) (by decide +kernel)
theorem dL_guarantee_0 : decode cL_guarantee 0 = .ok (.aload 8, 2) := by decide +kernel
theorem dL_guarantee_2 : decode cL_guarantee 2 = .ok (.iconst 0, 1) := by decide +kernel
theorem dL_guarantee_3 : decode cL_guarantee 3 = .ok (.aload_n 0, 1) := by decide +kernel
theorem dL_guarantee_4 : decode cL_guarantee 4 = .ok (.iload_n 1, 1) := by decide +kernel
theorem dL_guarantee_5 : decode cL_guarantee 5 = .ok (.lload_n 2, 1) := by decide +kernel
theorem dL_guarantee_6 : decode cL_guarantee 6 = .ok (.iload 4, 2) := by decide +kernel
theorem dL_guarantee_8 : decode cL_guarantee 8 = .ok (.iload 5, 2) := by decide +kernel
theorem dL_guarantee_10 : decode cL_guarantee 10 = .ok (.iload 6, 2) := by decide +kernel
theorem dL_guarantee_12 : decode cL_guarantee 12 = .ok (.iload 7, 2) := by decide +kernel
theorem dL_guarantee_14 : decode cL_guarantee 14 = .ok (.invokevirtual 7, 3) := by decide +kernel
theorem dL_guarantee_17 : decode cL_guarantee 17 = .ok (.i2l, 1) := by decide +kernel
theorem dL_guarantee_18 : decode cL_guarantee 18 = .ok (.lastore, 1) := by decide +kernel
theorem dL_guarantee_19 : decode cL_guarantee 19 = .ok (.goto 11, 3) := by decide +kernel
theorem dL_guarantee_22 : decode cL_guarantee 22 = .ok (.astore 9, 2) := by decide +kernel
theorem dL_guarantee_24 : decode cL_guarantee 24 = .ok (.iconst 1, 1) := by decide +kernel
theorem dL_guarantee_25 : decode cL_guarantee 25 = .ok (.ireturn, 1) := by decide +kernel
theorem dL_guarantee_26 : decode cL_guarantee 26 = .ok (.astore 9, 2) := by decide +kernel
theorem dL_guarantee_28 : decode cL_guarantee 28 = .ok (.iconst 2, 1) := by decide +kernel
theorem dL_guarantee_29 : decode cL_guarantee 29 = .ok (.ireturn, 1) := by decide +kernel
theorem dL_guarantee_30 : decode cL_guarantee 30 = .ok (.iconst 0, 1) := by decide +kernel
theorem dL_guarantee_31 : decode cL_guarantee 31 = .ok (.ireturn, 1) := by decide +kernel
theorem dL_reserve_0 : decode cL_reserve 0 = .ok (.aload 5, 2) := by decide +kernel
theorem dL_reserve_2 : decode cL_reserve 2 = .ok (.iconst 0, 1) := by decide +kernel
theorem dL_reserve_3 : decode cL_reserve 3 = .ok (.aload_n 0, 1) := by decide +kernel
theorem dL_reserve_4 : decode cL_reserve 4 = .ok (.iload_n 1, 1) := by decide +kernel
theorem dL_reserve_5 : decode cL_reserve 5 = .ok (.iload_n 2, 1) := by decide +kernel
theorem dL_reserve_6 : decode cL_reserve 6 = .ok (.lload_n 3, 1) := by decide +kernel
theorem dL_reserve_7 : decode cL_reserve 7 = .ok (.invokevirtual 17, 3) := by decide +kernel
theorem dL_reserve_10 : decode cL_reserve 10 = .ok (.i2l, 1) := by decide +kernel
theorem dL_reserve_11 : decode cL_reserve 11 = .ok (.lastore, 1) := by decide +kernel
theorem dL_reserve_12 : decode cL_reserve 12 = .ok (.goto 11, 3) := by decide +kernel
theorem dL_reserve_15 : decode cL_reserve 15 = .ok (.astore 6, 2) := by decide +kernel
theorem dL_reserve_17 : decode cL_reserve 17 = .ok (.iconst 1, 1) := by decide +kernel
theorem dL_reserve_18 : decode cL_reserve 18 = .ok (.ireturn, 1) := by decide +kernel
theorem dL_reserve_19 : decode cL_reserve 19 = .ok (.astore 6, 2) := by decide +kernel
theorem dL_reserve_21 : decode cL_reserve 21 = .ok (.iconst 2, 1) := by decide +kernel
theorem dL_reserve_22 : decode cL_reserve 22 = .ok (.ireturn, 1) := by decide +kernel
theorem dL_reserve_23 : decode cL_reserve 23 = .ok (.iconst 0, 1) := by decide +kernel
theorem dL_reserve_24 : decode cL_reserve 24 = .ok (.ireturn, 1) := by decide +kernel
theorem dL_end_0 : decode cL_end 0 = .ok (.aload_n 3, 1) := by decide +kernel
theorem dL_end_1 : decode cL_end 1 = .ok (.iconst 0, 1) := by decide +kernel
theorem dL_end_2 : decode cL_end 2 = .ok (.aload_n 0, 1) := by decide +kernel
theorem dL_end_3 : decode cL_end 3 = .ok (.iload_n 1, 1) := by decide +kernel
theorem dL_end_4 : decode cL_end 4 = .ok (.iload_n 2, 1) := by decide +kernel
theorem dL_end_5 : decode cL_end 5 = .ok (.invokevirtual 21, 3) := by decide +kernel
theorem dL_end_8 : decode cL_end 8 = .ok (.i2l, 1) := by decide +kernel
theorem dL_end_9 : decode cL_end 9 = .ok (.lastore, 1) := by decide +kernel
theorem dL_end_10 : decode cL_end 10 = .ok (.goto 7, 3) := by decide +kernel
theorem dL_end_13 : decode cL_end 13 = .ok (.astore 4, 2) := by decide +kernel
theorem dL_end_15 : decode cL_end 15 = .ok (.iconst 1, 1) := by decide +kernel
theorem dL_end_16 : decode cL_end 16 = .ok (.ireturn, 1) := by decide +kernel
theorem dL_end_17 : decode cL_end 17 = .ok (.iconst 0, 1) := by decide +kernel
theorem dL_end_18 : decode cL_end 18 = .ok (.ireturn, 1) := by decide +kernel
theorem dL_reduce_0 : decode cL_reduce 0 = .ok (.aload 4, 2) := by decide +kernel
theorem dL_reduce_2 : decode cL_reduce 2 = .ok (.iconst 0, 1) := by decide +kernel
theorem dL_reduce_3 : decode cL_reduce 3 = .ok (.aload_n 0, 1) := by decide +kernel
theorem dL_reduce_4 : decode cL_reduce 4 = .ok (.iload_n 1, 1) := by decide +kernel
theorem dL_reduce_5 : decode cL_reduce 5 = .ok (.lload_n 2, 1) := by decide +kernel
theorem dL_reduce_6 : decode cL_reduce 6 = .ok (.invokevirtual 25, 3) := by decide +kernel
theorem dL_reduce_9 : decode cL_reduce 9 = .ok (.lastore, 1) := by decide +kernel
theorem dL_reduce_10 : decode cL_reduce 10 = .ok (.goto 7, 3) := by decide +kernel
theorem dL_reduce_13 : decode cL_reduce 13 = .ok (.astore 5, 2) := by decide +kernel
theorem dL_reduce_15 : decode cL_reduce 15 = .ok (.iconst 1, 1) := by decide +kernel
theorem dL_reduce_16 : decode cL_reduce 16 = .ok (.ireturn, 1) := by decide +kernel
theorem dL_reduce_17 : decode cL_reduce 17 = .ok (.iconst 0, 1) := by decide +kernel
theorem dL_reduce_18 : decode cL_reduce 18 = .ok (.ireturn, 1) := by decide +kernel
theorem dL_claim_0 : decode cL_claim 0 = .ok (.aload 4, 2) := by decide +kernel
theorem dL_claim_2 : decode cL_claim 2 = .ok (.iconst 0, 1) := by decide +kernel
theorem dL_claim_3 : decode cL_claim 3 = .ok (.aload_n 0, 1) := by decide +kernel
theorem dL_claim_4 : decode cL_claim 4 = .ok (.iload_n 1, 1) := by decide +kernel
theorem dL_claim_5 : decode cL_claim 5 = .ok (.lload_n 2, 1) := by decide +kernel
theorem dL_claim_6 : decode cL_claim 6 = .ok (.invokevirtual 29, 3) := by decide +kernel
theorem dL_claim_9 : decode cL_claim 9 = .ok (.lastore, 1) := by decide +kernel
theorem dL_claim_10 : decode cL_claim 10 = .ok (.goto 7, 3) := by decide +kernel
theorem dL_claim_13 : decode cL_claim 13 = .ok (.astore 5, 2) := by decide +kernel
theorem dL_claim_15 : decode cL_claim 15 = .ok (.iconst 1, 1) := by decide +kernel
theorem dL_claim_16 : decode cL_claim 16 = .ok (.ireturn, 1) := by decide +kernel
theorem dL_claim_17 : decode cL_claim 17 = .ok (.iconst 0, 1) := by decide +kernel
theorem dL_claim_18 : decode cL_claim 18 = .ok (.ireturn, 1) := by decide +kernel
theorem dL_interest_0 : decode cL_interest 0 = .ok (.aload_n 2, 1) := by decide +kernel
theorem dL_interest_1 : decode cL_interest 1 = .ok (.iconst 0, 1) := by decide +kernel
theorem dL_interest_2 : decode cL_interest 2 = .ok (.aload_n 0, 1) := by decide +kernel
theorem dL_interest_3 : decode cL_interest 3 = .ok (.iload_n 1, 1) := by decide +kernel
theorem dL_interest_4 : decode cL_interest 4 = .ok (.invokevirtual 32, 3) := by decide +kernel
theorem dL_interest_7 : decode cL_interest 7 = .ok (.lastore, 1) := by decide +kernel
theorem dL_interest_8 : decode cL_interest 8 = .ok (.goto 6, 3) := by decide +kernel
theorem dL_interest_11 : decode cL_interest 11 = .ok (.astore_n 3, 1) := by decide +kernel
theorem dL_interest_12 : decode cL_interest 12 = .ok (.iconst 1, 1) := by decide +kernel
theorem dL_interest_13 : decode cL_interest 13 = .ok (.ireturn, 1) := by decide +kernel
theorem dL_interest_14 : decode cL_interest 14 = .ok (.iconst 0, 1) := by decide +kernel
theorem dL_interest_15 : decode cL_interest 15 = .ok (.ireturn, 1) := by decide +kernel
theorem dL_look_0 : decode cL_look 0 = .ok (.aload_n 3, 1) := by decide +kernel
theorem dL_look_1 : decode cL_look 1 = .ok (.iconst 0, 1) := by decide +kernel
theorem dL_look_2 : decode cL_look 2 = .ok (.aload_n 0, 1) := by decide +kernel
theorem dL_look_3 : decode cL_look 3 = .ok (.iload_n 1, 1) := by decide +kernel
theorem dL_look_4 : decode cL_look 4 = .ok (.iload_n 2, 1) := by decide +kernel
theorem dL_look_5 : decode cL_look 5 = .ok (.invokevirtual 36, 3) := by decide +kernel
theorem dL_look_8 : decode cL_look 8 = .ok (.lastore, 1) := by decide +kernel
theorem dL_look_9 : decode cL_look 9 = .ok (.goto 7, 3) := by decide +kernel
theorem dL_look_12 : decode cL_look 12 = .ok (.astore 4, 2) := by decide +kernel
theorem dL_look_14 : decode cL_look 14 = .ok (.iconst 1, 1) := by decide +kernel
theorem dL_look_15 : decode cL_look 15 = .ok (.ireturn, 1) := by decide +kernel
theorem dL_look_16 : decode cL_look 16 = .ok (.iconst 0, 1) := by decide +kernel
theorem dL_look_17 : decode cL_look 17 = .ok (.ireturn, 1) := by decide +kernel
theorem dL_of_0 : decode cL_of 0 = .ok (.aload_n 3, 1) := by decide +kernel
theorem dL_of_1 : decode cL_of 1 = .ok (.iconst 0, 1) := by decide +kernel
theorem dL_of_2 : decode cL_of 2 = .ok (.aload_n 0, 1) := by decide +kernel
theorem dL_of_3 : decode cL_of 3 = .ok (.iload_n 1, 1) := by decide +kernel
theorem dL_of_4 : decode cL_of 4 = .ok (.iload_n 2, 1) := by decide +kernel
theorem dL_of_5 : decode cL_of 5 = .ok (.invokevirtual 42, 3) := by decide +kernel
theorem dL_of_8 : decode cL_of 8 = .ok (.lastore, 1) := by decide +kernel
theorem dL_of_9 : decode cL_of 9 = .ok (.goto 7, 3) := by decide +kernel
theorem dL_of_12 : decode cL_of 12 = .ok (.astore 4, 2) := by decide +kernel
theorem dL_of_14 : decode cL_of 14 = .ok (.iconst 1, 1) := by decide +kernel
theorem dL_of_15 : decode cL_of 15 = .ok (.ireturn, 1) := by decide +kernel
theorem dL_of_16 : decode cL_of 16 = .ok (.iconst 0, 1) := by decide +kernel
theorem dL_of_17 : decode cL_of 17 = .ok (.ireturn, 1) := by decide +kernel

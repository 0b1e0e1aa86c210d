/-! THE MODEL'S first, reduce, claim: what their loops need; the class's first -/
def cFirstM (μ : CS) (n : Nat) (O : List Nat) (x : Int32) : Int32 × CS := match gIx x n with
  | none => (0, uI μ 8 0 0 0)
  | some g => cFirM μ (O.takeWhile (fun a => a != g)) g
theorem tw_pre {A B : List Nat} {g : Nat} (h : g ∉ A) : (A ++ g :: B).takeWhile (fun a => a != g) = A := by
  induction A with
  | nil => simp
  | cons a A ih =>
    have h1 : a ≠ g := fun e => h (by subst e; exact List.mem_cons_self)
    have h2 : g ∉ A := fun e => h (List.mem_cons_of_mem _ e)
    simp [h1]
    exact ih h2
theorem ap_at {A1 t B : List Nat} {a : Nat} : ((A1 ++ a :: t) ++ B)[A1.length]? = some a := by simp
theorem ap_at0 {A1 B : List Nat} {a : Nat} : (A1 ++ a :: B)[A1.length]? = some a := by simp
theorem mAny_snoc {μ : CS} {g a : Nat} {A : List Nat} : mAny μ g (A ++ [a]) = (mAny μ g A || decide (fI μ 9 0 (a + 1) = fI μ 9 0 (g + 1))) := by unfold mAny; simp [List.any_append]
theorem mRed_s {j q : Nat} {τ u : CS} {left : Int64} (h : mRed j q τ left = some u) (c : ¬ left ≤ 0) : ∃ p, q = p + 1 := by
  cases q with
  | zero => rw [mRed, if_neg c] at h; cases h
  | succ p => exact ⟨p, rfl⟩
theorem mP_of {μ : CS} {j p : Nat} (h : fI μ 9 15 j = nI p) (hp : p ≤ 4) : mP μ j = p := by unfold mP; rw [h]; exact nI_clamp (by omega)
def prd (L : List Nat) (g : Nat) : Nat := (L.takeWhile (fun a => a != g)).getLastD 0
def cFirst (σ : CS) (n : Nat) (L : Nat → List Nat) (x : Int32) : Int32 × CS := match gIx x n with
  | none => (0, σ)
  | some g => if fR σ 7 1 (fI σ 1 g 1).toNatClampNeg = some g then (0, σ) else (1, pFirst σ (fI σ 1 g 1).toNatClampNeg (prd (L (fI σ 1 g 1).toNatClampNeg) g) g)
theorem prd_of {A B : List Nat} {b g : Nat} (h : g ∉ A ++ [b]) : prd (A ++ b :: g :: B) g = b := by
  unfold prd
  rw [show A ++ b :: g :: B = (A ++ [b]) ++ g :: B by simp, tw_pre h]
  simp
theorem ls_snoc : ∀ (A : List Nat), A = [] ∨ ∃ (A' : List Nat) (b : Nat), A = A' ++ [b]
  | [] => Or.inl rfl
  | a :: A => Or.inr (by
    rcases ls_snoc A with h | ⟨A', b, h⟩
    · exact ⟨[], a, by rw [h]; rfl⟩
    · exact ⟨a :: A', b, by rw [h]; rfl⟩)
theorem w_1_98 : (Jvm.Cond.methodLink "GuaranteeBook" (90 : Nat) ({ cls := "GuaranteeBook", name := "putFirst", desc := "(LGuaranteeBook$Guarantee;)V" } : Jvm.MethodName)) ∈ WSall := ws_in (tb1 (List.mem_of_getElem? (i := 98) rfl)) (by decide +kernel)
theorem w_1_100 : (Jvm.Cond.instanceMethod ({ cls := "GuaranteeBook", name := "putFirst", desc := "(LGuaranteeBook$Guarantee;)V" } : Jvm.MethodName)) ∈ WSall := ws_in (tb1 (List.mem_of_getElem? (i := 100) rfl)) (by decide +kernel)
theorem w_1_101 : (Jvm.Cond.code ({ cls := "GuaranteeBook", name := "putFirst", desc := "(LGuaranteeBook$Guarantee;)V" } : Jvm.MethodName) prog_1_method_24_code (3 : Nat) (Option.none : Option Jvm.ClassFile.FieldType)) ∈ WSall := ws_in (tb1 (List.mem_of_getElem? (i := 101) rfl)) (by decide +kernel)
theorem w_3_47 : (Jvm.Cond.fieldLink "GuaranteeBookModel" (36 : Nat) "GuaranteeBookModel" "claimed" "[J") ∈ WSall := ws_in (tb3 (List.mem_of_getElem? (i := 47) rfl)) (by decide +kernel)
theorem w_3_194 : (Jvm.Cond.methodLink "GuaranteeBookModel" (141 : Nat) ({ cls := "GuaranteeBookModel", name := "covered", desc := "(I)J" } : Jvm.MethodName)) ∈ WSall := ws_in (tb3 (List.mem_of_getElem? (i := 194) rfl)) (by decide +kernel)
theorem w_3_196 : (Jvm.Cond.instanceMethod ({ cls := "GuaranteeBookModel", name := "covered", desc := "(I)J" } : Jvm.MethodName)) ∈ WSall := ws_in (tb3 (List.mem_of_getElem? (i := 196) rfl)) (by decide +kernel)
theorem w_3_197 : (Jvm.Cond.code ({ cls := "GuaranteeBookModel", name := "covered", desc := "(I)J" } : Jvm.MethodName) prog_7_method_20_code (5 : Nat) (Option.some Jvm.ClassFile.FieldType.long)) ∈ WSall := ws_in (tb3 (List.mem_of_getElem? (i := 197) rfl)) (by decide +kernel)
theorem w_3_202 : (Jvm.Cond.methodLink "GuaranteeBookModel" (149 : Nat) ({ cls := "GuaranteeBookModel", name := "endRow", desc := "(I)V" } : Jvm.MethodName)) ∈ WSall := ws_in (tb3 (List.mem_of_getElem? (i := 202) rfl)) (by decide +kernel)
theorem w_3_204 : (Jvm.Cond.instanceMethod ({ cls := "GuaranteeBookModel", name := "endRow", desc := "(I)V" } : Jvm.MethodName)) ∈ WSall := ws_in (tb3 (List.mem_of_getElem? (i := 204) rfl)) (by decide +kernel)
theorem w_3_205 : (Jvm.Cond.code ({ cls := "GuaranteeBookModel", name := "endRow", desc := "(I)V" } : Jvm.MethodName) prog_7_method_23_code (2 : Nat) (Option.none : Option Jvm.ClassFile.FieldType)) ∈ WSall := ws_in (tb3 (List.mem_of_getElem? (i := 205) rfl)) (by decide +kernel)
theorem wp_1 : Cond.selects "GuaranteeBook" ⟨"GuaranteeBook", "putFirst", "(LGuaranteeBook$Guarantee;)V"⟩ ⟨"GuaranteeBook", "putFirst", "(LGuaranteeBook$Guarantee;)V"⟩ ∈ WSall := ws_in (List.mem_append_left _ (by decide +kernel)) (by decide +kernel)
theorem wp_20 : Cond.selects "GuaranteeBookModel" ⟨"GuaranteeBookModel", "covered", "(I)J"⟩ ⟨"GuaranteeBookModel", "covered", "(I)J"⟩ ∈ WSall := ws_in (List.mem_append_left _ (by decide +kernel)) (by decide +kernel)
theorem wp_21 : Cond.selects "GuaranteeBookModel" ⟨"GuaranteeBookModel", "endRow", "(I)V"⟩ ⟨"GuaranteeBookModel", "endRow", "(I)V"⟩ ∈ WSall := ws_in (List.mem_append_left _ (by decide +kernel)) (by decide +kernel)

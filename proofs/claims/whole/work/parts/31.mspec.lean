/-! THE MODEL'S METHODS, in the order of their own steps -/
abbrev pIn (x a b : Int64) : Prop := ¬ x < a ∧ ¬ b < x
abbrev pNum (x : Int32) (c : Int32) : Prop := ¬ x < 1 ∧ ¬ c < x
theorem i4mul (a : Nat) : 4 * nI a = nI (4 * a) := pk_mul 4 a
def mNeeds (μ : CS) (g : Nat) (x : Int64) : Int64 := (x * (fI μ 9 2 g).toInt64) / (fI μ 9 3 g).toInt64 + (if (x * (fI μ 9 2 g).toInt64) - (x * (fI μ 9 2 g).toInt64) / (fI μ 9 3 g).toInt64 * (fI μ 9 3 g).toInt64 ≤ 0 then 0 else 1)
def mP (μ : CS) (j : Nat) : Nat := (fI μ 9 15 j).toNatClampNeg
def mNdI (μ : CS) (g j : Nat) (a : Int64) : Nat → Int64
  | 0 => a
  | k + 1 => mNdI μ g j a k + (if fI μ 9 16 (4 * j + k) = nI g then mNeeds μ g (fL μ 9 17 (4 * j + k)) else 0)
def mNd (μ : CS) (g : Nat) : Nat → Int64
  | 0 => 0
  | j + 1 => mNdI μ g (j + 1) (mNd μ g j) (mP μ (j + 1))
def mUsI (μ : CS) (g j : Nat) (a : Int32) : Nat → Int32
  | 0 => a
  | k + 1 => mUsI μ g j a k + (if fI μ 9 16 (4 * j + k) = nI g then 1 else 0)
def mUs (μ : CS) (g : Nat) : Nat → Int32
  | 0 => 0
  | j + 1 => mUsI μ g (j + 1) (mUs μ g j) (mP μ (j + 1))
def mFree (μ : CS) (g r : Nat) : Int64 := if 0 ≤ fL μ 9 1 g - mNd μ g r then fL μ 9 1 g - mNd μ g r else 0
def mMay (μ : CS) (g r : Nat) : Int64 := if ¬ fI μ 9 6 g = 0 ∨ (¬ fI μ 9 4 g = 0 ∧ ¬ mUs μ g r ≤ 0) then 0 else if fI μ 9 2 g = 0 then 1000000000 else mFree μ g r * (fI μ 9 3 g).toInt64 / (fI μ 9 2 g).toInt64
def mTg (μ : CS) (r : Nat) (h : Int32) : Nat → Int64
  | 0 => 0
  | g + 1 => mTg μ r h g + (if fI μ 9 0 (g + 1) = h then mMay μ (g + 1) r else 0)
def mTog (μ : CS) (n r : Nat) (h : Int32) : Int64 := if mTg μ r h n ≤ 2000000000 then mTg μ r h n else 2000000000
def mCov (μ : CS) (j : Nat) : Nat → Int64
  | 0 => 0
  | k + 1 => mCov μ j k + fL μ 9 17 (4 * j + k)
def mRun (μ : CS) (g : Nat) : Int64 := if (if fI μ 9 6 g = 0 then fI μ 8 0 2 else fI μ 9 7 g) ≤ fI μ 9 10 g then 0 else fL μ 9 1 g * ((if fI μ 9 6 g = 0 then fI μ 8 0 2 else fI μ 9 7 g) - fI μ 9 10 g).toInt64 * (fI μ 9 5 g).toInt64 / 3650000
/-- the model is well made -/
def WFm (μ : CS) (n r : Nat) : Prop := n ≤ 20 ∧ r ≤ 60 ∧ fI μ 8 0 1 = nI n ∧ fI μ 8 0 15 = nI r ∧ (∀ k, k < n → ∃ g, 1 ≤ g ∧ g ≤ n ∧ fI μ 9 11 k = nI g) ∧ (∀ j, j ≤ r → ∃ p, p ≤ 4 ∧ fI μ 9 15 j = nI p) ∧ (∀ j k, 1 ≤ j → j ≤ r → k < mP μ j → ∃ g, 1 ≤ g ∧ g ≤ n ∧ fI μ 9 16 (4 * j + k) = nI g) ∧ (∀ g, 1 ≤ g → g ≤ n → ¬ fI μ 9 3 g = 0)
theorem gt_end {x : Int32} {n k : Nat} (hn : x = nI n) (c : x < nI (k + 1)) (hk : k ≤ n) (h : n < 2 ^ 30) : k = n := by
  rw [hn] at c
  have := (nI_ltI (by omega) (by omega)).mp c
  omega
theorem gt_lt {x : Int32} {n k : Nat} (hn : x = nI n) (c : ¬ x < nI (k + 1)) (h : k < 2 ^ 30) (h2 : n < 2 ^ 30) : k < n := by
  rcases Nat.lt_or_ge k n with h1 | h1
  · exact h1
  · exact absurd (by rw [hn]; exact nI_lt (by omega) (by omega)) c
theorem run_le {a b : Int32} (h : b < a) : ¬ a ≤ b := fun q => Int32.lt_irrefl (Int32.lt_of_lt_of_le h q)
theorem run_le2 {a b : Int32} (h : ¬ b < a) : a ≤ b := Int32.not_lt.mp h
theorem w_1_3 : (Jvm.Cond.initialized "GuaranteeBookModel") ∈ WSall := ws_in (tb1 (List.mem_of_getElem? (i := 3) rfl)) (by decide +kernel)
theorem w_3_36 : (Jvm.Cond.fieldLink "GuaranteeBookModel" (72 : Nat) "GuaranteeBookModel" "thrown" "I") ∈ WSall := ws_in (tb3 (List.mem_of_getElem? (i := 36) rfl)) (by decide +kernel)
theorem w_3_37 : (Jvm.Cond.fieldLink "GuaranteeBookModel" (76 : Nat) "GuaranteeBookModel" "guarantees" "I") ∈ WSall := ws_in (tb3 (List.mem_of_getElem? (i := 37) rfl)) (by decide +kernel)
theorem w_3_38 : (Jvm.Cond.fieldLink "GuaranteeBookModel" (100 : Nat) "GuaranteeBookModel" "today" "I") ∈ WSall := ws_in (tb3 (List.mem_of_getElem? (i := 38) rfl)) (by decide +kernel)
theorem w_3_39 : (Jvm.Cond.fieldLink "GuaranteeBookModel" (7 : Nat) "GuaranteeBookModel" "holder" "[I") ∈ WSall := ws_in (tb3 (List.mem_of_getElem? (i := 39) rfl)) (by decide +kernel)
theorem w_3_40 : (Jvm.Cond.fieldLink "GuaranteeBookModel" (13 : Nat) "GuaranteeBookModel" "amount" "[J") ∈ WSall := ws_in (tb3 (List.mem_of_getElem? (i := 40) rfl)) (by decide +kernel)
theorem w_3_41 : (Jvm.Cond.fieldLink "GuaranteeBookModel" (17 : Nat) "GuaranteeBookModel" "up" "[I") ∈ WSall := ws_in (tb3 (List.mem_of_getElem? (i := 41) rfl)) (by decide +kernel)
theorem w_3_42 : (Jvm.Cond.fieldLink "GuaranteeBookModel" (20 : Nat) "GuaranteeBookModel" "down" "[I") ∈ WSall := ws_in (tb3 (List.mem_of_getElem? (i := 42) rfl)) (by decide +kernel)
theorem w_3_43 : (Jvm.Cond.fieldLink "GuaranteeBookModel" (23 : Nat) "GuaranteeBookModel" "single" "[Z") ∈ WSall := ws_in (tb3 (List.mem_of_getElem? (i := 43) rfl)) (by decide +kernel)
theorem w_3_44 : (Jvm.Cond.fieldLink "GuaranteeBookModel" (27 : Nat) "GuaranteeBookModel" "rate" "[I") ∈ WSall := ws_in (tb3 (List.mem_of_getElem? (i := 44) rfl)) (by decide +kernel)
theorem w_3_45 : (Jvm.Cond.fieldLink "GuaranteeBookModel" (30 : Nat) "GuaranteeBookModel" "closed" "[Z") ∈ WSall := ws_in (tb3 (List.mem_of_getElem? (i := 45) rfl)) (by decide +kernel)
theorem w_3_46 : (Jvm.Cond.fieldLink "GuaranteeBookModel" (33 : Nat) "GuaranteeBookModel" "closedOn" "[I") ∈ WSall := ws_in (tb3 (List.mem_of_getElem? (i := 46) rfl)) (by decide +kernel)
theorem w_3_49 : (Jvm.Cond.fieldLink "GuaranteeBookModel" (42 : Nat) "GuaranteeBookModel" "since" "[I") ∈ WSall := ws_in (tb3 (List.mem_of_getElem? (i := 49) rfl)) (by decide +kernel)
theorem w_3_51 : (Jvm.Cond.fieldLink "GuaranteeBookModel" (79 : Nat) "GuaranteeBookModel" "reservations" "I") ∈ WSall := ws_in (tb3 (List.mem_of_getElem? (i := 51) rfl)) (by decide +kernel)
theorem w_3_55 : (Jvm.Cond.fieldLink "GuaranteeBookModel" (57 : Nat) "GuaranteeBookModel" "parts" "[I") ∈ WSall := ws_in (tb3 (List.mem_of_getElem? (i := 55) rfl)) (by decide +kernel)
theorem w_3_56 : (Jvm.Cond.fieldLink "GuaranteeBookModel" (60 : Nat) "GuaranteeBookModel" "part" "[I") ∈ WSall := ws_in (tb3 (List.mem_of_getElem? (i := 56) rfl)) (by decide +kernel)
theorem w_3_57 : (Jvm.Cond.fieldLink "GuaranteeBookModel" (63 : Nat) "GuaranteeBookModel" "covers" "[J") ∈ WSall := ws_in (tb3 (List.mem_of_getElem? (i := 57) rfl)) (by decide +kernel)
theorem w_3_117 : (Jvm.Cond.constantLong "GuaranteeBookModel" (82 : Nat) (1000000000 : Int64)) ∈ WSall := ws_in (tb3 (List.mem_of_getElem? (i := 117) rfl)) (by decide +kernel)
theorem w_3_150 : (Jvm.Cond.methodLink "GuaranteeBookModel" (120 : Nat) ({ cls := "GuaranteeBookModel", name := "may", desc := "(I)J" } : Jvm.MethodName)) ∈ WSall := ws_in (tb3 (List.mem_of_getElem? (i := 150) rfl)) (by decide +kernel)
theorem w_3_152 : (Jvm.Cond.instanceMethod ({ cls := "GuaranteeBookModel", name := "may", desc := "(I)J" } : Jvm.MethodName)) ∈ WSall := ws_in (tb3 (List.mem_of_getElem? (i := 152) rfl)) (by decide +kernel)
theorem w_3_153 : (Jvm.Cond.code ({ cls := "GuaranteeBookModel", name := "may", desc := "(I)J" } : Jvm.MethodName) prog_7_method_15_code (2 : Nat) (Option.some Jvm.ClassFile.FieldType.long)) ∈ WSall := ws_in (tb3 (List.mem_of_getElem? (i := 153) rfl)) (by decide +kernel)
theorem w_3_154 : (Jvm.Cond.methodLink "GuaranteeBookModel" (114 : Nat) ({ cls := "GuaranteeBookModel", name := "used", desc := "(I)I" } : Jvm.MethodName)) ∈ WSall := ws_in (tb3 (List.mem_of_getElem? (i := 154) rfl)) (by decide +kernel)
theorem w_3_156 : (Jvm.Cond.instanceMethod ({ cls := "GuaranteeBookModel", name := "used", desc := "(I)I" } : Jvm.MethodName)) ∈ WSall := ws_in (tb3 (List.mem_of_getElem? (i := 156) rfl)) (by decide +kernel)
theorem w_3_157 : (Jvm.Cond.code ({ cls := "GuaranteeBookModel", name := "used", desc := "(I)I" } : Jvm.MethodName) prog_7_method_13_code (5 : Nat) (Option.some Jvm.ClassFile.FieldType.int)) ∈ WSall := ws_in (tb3 (List.mem_of_getElem? (i := 157) rfl)) (by decide +kernel)
theorem w_3_158 : (Jvm.Cond.methodLink "GuaranteeBookModel" (117 : Nat) ({ cls := "GuaranteeBookModel", name := "freeOf", desc := "(I)J" } : Jvm.MethodName)) ∈ WSall := ws_in (tb3 (List.mem_of_getElem? (i := 158) rfl)) (by decide +kernel)
theorem w_3_160 : (Jvm.Cond.instanceMethod ({ cls := "GuaranteeBookModel", name := "freeOf", desc := "(I)J" } : Jvm.MethodName)) ∈ WSall := ws_in (tb3 (List.mem_of_getElem? (i := 160) rfl)) (by decide +kernel)
theorem w_3_161 : (Jvm.Cond.code ({ cls := "GuaranteeBookModel", name := "freeOf", desc := "(I)J" } : Jvm.MethodName) prog_7_method_14_code (4 : Nat) (Option.some Jvm.ClassFile.FieldType.long)) ∈ WSall := ws_in (tb3 (List.mem_of_getElem? (i := 161) rfl)) (by decide +kernel)
theorem w_3_162 : (Jvm.Cond.methodLink "GuaranteeBookModel" (110 : Nat) ({ cls := "GuaranteeBookModel", name := "needed", desc := "(I)J" } : Jvm.MethodName)) ∈ WSall := ws_in (tb3 (List.mem_of_getElem? (i := 162) rfl)) (by decide +kernel)
theorem w_3_164 : (Jvm.Cond.instanceMethod ({ cls := "GuaranteeBookModel", name := "needed", desc := "(I)J" } : Jvm.MethodName)) ∈ WSall := ws_in (tb3 (List.mem_of_getElem? (i := 164) rfl)) (by decide +kernel)
theorem w_3_165 : (Jvm.Cond.code ({ cls := "GuaranteeBookModel", name := "needed", desc := "(I)J" } : Jvm.MethodName) prog_7_method_12_code (6 : Nat) (Option.some Jvm.ClassFile.FieldType.long)) ∈ WSall := ws_in (tb3 (List.mem_of_getElem? (i := 165) rfl)) (by decide +kernel)
theorem w_3_166 : (Jvm.Cond.methodLink "GuaranteeBookModel" (106 : Nat) ({ cls := "GuaranteeBookModel", name := "needs", desc := "(IJ)J" } : Jvm.MethodName)) ∈ WSall := ws_in (tb3 (List.mem_of_getElem? (i := 166) rfl)) (by decide +kernel)
theorem w_3_168 : (Jvm.Cond.instanceMethod ({ cls := "GuaranteeBookModel", name := "needs", desc := "(IJ)J" } : Jvm.MethodName)) ∈ WSall := ws_in (tb3 (List.mem_of_getElem? (i := 168) rfl)) (by decide +kernel)
theorem w_3_169 : (Jvm.Cond.code ({ cls := "GuaranteeBookModel", name := "needs", desc := "(IJ)J" } : Jvm.MethodName) prog_7_method_11_code (6 : Nat) (Option.some Jvm.ClassFile.FieldType.long)) ∈ WSall := ws_in (tb3 (List.mem_of_getElem? (i := 169) rfl)) (by decide +kernel)
theorem w_3_170 : (Jvm.Cond.constantLong "GuaranteeBookModel" (123 : Nat) (2000000000 : Int64)) ∈ WSall := ws_in (tb3 (List.mem_of_getElem? (i := 170) rfl)) (by decide +kernel)
theorem w_3_210 : (Jvm.Cond.constantLong "GuaranteeBookModel" (147 : Nat) (3650000 : Int64)) ∈ WSall := ws_in (tb3 (List.mem_of_getElem? (i := 210) rfl)) (by decide +kernel)
theorem wp_13 : Cond.selects "GuaranteeBookModel" ⟨"GuaranteeBookModel", "may", "(I)J"⟩ ⟨"GuaranteeBookModel", "may", "(I)J"⟩ ∈ WSall := ws_in (List.mem_append_left _ (by decide +kernel)) (by decide +kernel)
theorem wp_14 : Cond.selects "GuaranteeBookModel" ⟨"GuaranteeBookModel", "used", "(I)I"⟩ ⟨"GuaranteeBookModel", "used", "(I)I"⟩ ∈ WSall := ws_in (List.mem_append_left _ (by decide +kernel)) (by decide +kernel)
theorem wp_15 : Cond.selects "GuaranteeBookModel" ⟨"GuaranteeBookModel", "freeOf", "(I)J"⟩ ⟨"GuaranteeBookModel", "freeOf", "(I)J"⟩ ∈ WSall := ws_in (List.mem_append_left _ (by decide +kernel)) (by decide +kernel)
theorem wp_16 : Cond.selects "GuaranteeBookModel" ⟨"GuaranteeBookModel", "needed", "(I)J"⟩ ⟨"GuaranteeBookModel", "needed", "(I)J"⟩ ∈ WSall := ws_in (List.mem_append_left _ (by decide +kernel)) (by decide +kernel)
theorem wp_17 : Cond.selects "GuaranteeBookModel" ⟨"GuaranteeBookModel", "needs", "(IJ)J"⟩ ⟨"GuaranteeBookModel", "needs", "(IJ)J"⟩ ∈ WSall := ws_in (List.mem_append_left _ (by decide +kernel)) (by decide +kernel)

/-! THE MODEL'S METHODS, in the order of their own steps -/
abbrev pIn (x a b : Int64) : Prop := ¬ x < a ∧ ¬ b < x
abbrev pNum (x : Int32) (c : Int32) : Prop := ¬ x < 1 ∧ ¬ c < x
theorem i4mul (a : Nat) : 4 * nI a = nI (4 * a) := pk_mul 4 a
def mNeeds (μ : CS) (g : Nat) (x : Int64) : Int64 := (x * (fI μ 9 2 g).toInt64) / (fI μ 9 3 g).toInt64 + (if (x * (fI μ 9 2 g).toInt64) - (x * (fI μ 9 2 g).toInt64) / (fI μ 9 3 g).toInt64 * (fI μ 9 3 g).toInt64 ≤ 0 then 0 else 1)
def mP (μ : CS) (j : Nat) : Nat := (fI μ 9 15 j).toNatClampNeg
def mNdI (μ : CS) (g j : Nat) (a : Int64) : Nat → Int64
  | 0 => a
  | k + 1 => mNdI μ g j a k + (if fI μ 9 16 (4 * j + k) = nI g then mNeeds μ g (fL μ 9 17 (4 * j + k)) else 0)
def mNd (μ : CS) (g : Nat) : Nat → Int64
  | 0 => 0
  | j + 1 => mNdI μ g (j + 1) (mNd μ g j) (mP μ (j + 1))
def mUsI (μ : CS) (g j : Nat) (a : Int32) : Nat → Int32
  | 0 => a
  | k + 1 => mUsI μ g j a k + (if fI μ 9 16 (4 * j + k) = nI g then 1 else 0)
def mUs (μ : CS) (g : Nat) : Nat → Int32
  | 0 => 0
  | j + 1 => mUsI μ g (j + 1) (mUs μ g j) (mP μ (j + 1))
def mFree (μ : CS) (g r : Nat) : Int64 := if 0 ≤ fL μ 9 1 g - mNd μ g r then fL μ 9 1 g - mNd μ g r else 0
def mMay (μ : CS) (g r : Nat) : Int64 := if ¬ fI μ 9 6 g = 0 ∨ (¬ fI μ 9 4 g = 0 ∧ ¬ mUs μ g r ≤ 0) then 0 else if fI μ 9 2 g = 0 then 1000000000 else mFree μ g r * (fI μ 9 3 g).toInt64 / (fI μ 9 2 g).toInt64
def mTg (μ : CS) (r : Nat) (h : Int32) : Nat → Int64
  | 0 => 0
  | g + 1 => mTg μ r h g + (if fI μ 9 0 (g + 1) = h then mMay μ (g + 1) r else 0)
def mTog (μ : CS) (n r : Nat) (h : Int32) : Int64 := if mTg μ r h n ≤ 2000000000 then mTg μ r h n else 2000000000
def mCov (μ : CS) (j : Nat) : Nat → Int64
  | 0 => 0
  | k + 1 => mCov μ j k + fL μ 9 17 (4 * j + k)
def mRun (μ : CS) (g : Nat) : Int64 := if (if fI μ 9 6 g = 0 then fI μ 8 0 2 else fI μ 9 7 g) ≤ fI μ 9 10 g then 0 else fL μ 9 1 g * ((if fI μ 9 6 g = 0 then fI μ 8 0 2 else fI μ 9 7 g) - fI μ 9 10 g).toInt64 * (fI μ 9 5 g).toInt64 / 3650000
/-- the model is well made -/
def WFm (μ : CS) (n r : Nat) : Prop := n ≤ 20 ∧ r ≤ 60 ∧ fI μ 8 0 1 = nI n ∧ fI μ 8 0 15 = nI r ∧ (∀ k, k < n → ∃ g, 1 ≤ g ∧ g ≤ n ∧ fI μ 9 11 k = nI g) ∧ (∀ j, j ≤ r → ∃ p, p ≤ 4 ∧ fI μ 9 15 j = nI p) ∧ (∀ j k, 1 ≤ j → j ≤ r → k < mP μ j → ∃ g, 1 ≤ g ∧ g ≤ n ∧ fI μ 9 16 (4 * j + k) = nI g) ∧ (∀ g, 1 ≤ g → g ≤ n → ¬ fI μ 9 3 g = 0)
theorem gt_end {x : Int32} {n k : Nat} (hn : x = nI n) (c : x < nI (k + 1)) (hk : k ≤ n) (h : n < 2 ^ 30) : k = n := by
  rw [hn] at c
  have := (nI_ltI (by omega) (by omega)).mp c
  omega
theorem gt_lt {x : Int32} {n k : Nat} (hn : x = nI n) (c : ¬ x < nI (k + 1)) (h : k < 2 ^ 30) (h2 : n < 2 ^ 30) : k < n := by
  rcases Nat.lt_or_ge k n with h1 | h1
  · exact h1
  · exact absurd (by rw [hn]; exact nI_lt (by omega) (by omega)) c
theorem run_le {a b : Int32} (h : b < a) : ¬ a ≤ b := fun q => Int32.lt_irrefl (Int32.lt_of_lt_of_le h q)
theorem run_le2 {a b : Int32} (h : ¬ b < a) : a ≤ b := Int32.not_lt.mp h
abbrev mGood (a : Int64) (u d rt : Int32) : Prop := pIn a 1 1000000000 ∧ pIn u.toInt64 0 100 ∧ pIn d.toInt64 1 100 ∧ ¬ d < u ∧ pIn rt.toInt64 0 1000
def dG0 (μ : CS) (n : Nat) : CS := uI (uI (uI μ 8 0 0 0) 9 11 n (nI n + 1)) 8 0 1 (nI n + 1)
def dGuar (μ : CS) (n : Nat) (h : Int32) (a : Int64) (u d one rt : Int32) : CS := uI (uI (uI (uI (uI (uL (uI (dG0 μ n) 9 0 (n + 1) h) 9 1 (n + 1) a) 9 2 (n + 1) u) 9 3 (n + 1) d) 9 4 (n + 1) one) 9 5 (n + 1) rt) 9 10 (n + 1) (fI μ 8 0 2)
def cGuarM (μ : CS) (n : Nat) (h : Int32) (a : Int64) (u d one rt : Int32) : Int32 × CS := if pHold h then (if mGood a u d rt then (if nI n = 20 then (0, uI μ 8 0 0 2) else (nI (n + 1), dGuar μ n h a u d one rt)) else (0, uI μ 8 0 0 1)) else (0, uI μ 8 0 0 1)
def mLs (μ : CS) (n : Nat) (h : Int32) : Nat → Nat → Int32 → Int32
  | 0, _, _ => -1
  | f + 1, k, left => if fI μ 9 0 (fI μ 9 11 k).toNatClampNeg = h then (if left = 0 then fI μ 9 11 k else mLs μ n h f (k + 1) (left - 1)) else mLs μ n h f (k + 1) (left - 0)
def cTickM (μ : CS) (x : Int32) : Int32 × CS := if x < fI μ 8 0 2 then (0, uI μ 8 0 0 0) else if x ≤ 100000 then (1, uI (uI μ 8 0 0 0) 8 0 2 x) else (0, uI μ 8 0 0 0)
def cCloseM (μ : CS) (n : Nat) (x : Int32) : Int32 × CS := match gIx x n with
  | none => (0, uI μ 8 0 0 0)
  | some i => if fI μ 9 6 (i + 1) = 0 then (1, uI (uI (uI μ 8 0 0 0) 9 6 (i + 1) 1) 9 7 (i + 1) (fI μ 8 0 2)) else (0, uI μ 8 0 0 0)
def cFailsM (μ : CS) (x on : Int32) : Int32 × CS := if pIn x.toInt64 0 3 then (if fI μ 9 18 x.toNatClampNeg = on then (0, uI μ 8 0 0 0) else (1, uI (uI μ 8 0 0 0) 9 18 x.toNatClampNeg on)) else (0, uI μ 8 0 0 0)
def cInterestM (μ : CS) (n : Nat) (x : Int32) : Int64 × CS := match gIx x n with
  | none => (0, uI μ 8 0 0 1)
  | some i => (fL μ 9 9 (i + 1) + mRun (uI μ 8 0 0 0) (i + 1), uI μ 8 0 0 0)
def cEndM (μ : CS) (r : Nat) (x how : Int32) : Int32 × CS := match gIx x r with
  | none => (0, uI μ 8 0 0 1)
  | some j => if how < 1 then (0, uI μ 8 0 0 1) else if how ≤ 2 then (if fI μ 9 14 (j + 1) ≤ 0 then (1, uI (uI (uI μ 8 0 0 0) 9 14 (j + 1) how) 9 15 (j + 1) 0) else (0, uI μ 8 0 0 0)) else (0, uI μ 8 0 0 1)
def mLive (μ : CS) : Nat → Int32
  | 0 => 0
  | j + 1 => mLive μ j + (if fI μ 9 14 (j + 1) = 0 then 1 else 0)
def cCountM (μ : CS) (r : Nat) (x : Int32) : Int32 := if x < 10 then (if x = 0 then fI μ 8 0 1 else if x = 1 then fI μ 8 0 15 else if x = 2 then mLive μ r else if x = 3 then fI μ 8 0 2 else -1) else if 14 ≤ x then -1 else fI μ 9 19 (x - 10).toNatClampNeg
theorem pNum_ix {x : Int32} {n : Nat} {c : Int32} (hc : c = nI n) (hn : n < 2 ^ 30) (h : pNum x c) : ∃ i, i < n ∧ x = nI (i + 1) ∧ gIx x n = some i := by
  subst hc
  obtain ⟨i, hi, e⟩ := num_in h.1 h.2 (by omega)
  exact ⟨i, hi, e, gIx_some hi hn e⟩
theorem pNum_no {x : Int32} {n : Nat} {c : Int32} (hc : c = nI n) (h : ¬ pNum x c) : gIx x n = none := by
  subst hc
  by_cases h1 : x < 1
  · exact gIx_none (Or.inl h1)
  · by_cases h2 : nI n < x
    · exact gIx_none (Or.inr h2)
    · exact absurd ⟨h1, h2⟩ h
theorem in3_vp {x : Int32} (h : pIn x.toInt64 0 3) : vp_in x 4 := by
  rw [vp_in_iff]
  obtain ⟨h1, h2⟩ := h
  have a1 : ¬ x.toInt64.toInt < (0 : Int64).toInt := fun q => h1 (Int64.lt_iff_toInt_lt.mpr q)
  have a2 : ¬ (3 : Int64).toInt < x.toInt64.toInt := fun q => h2 (Int64.lt_iff_toInt_lt.mpr q)
  rw [Int32.toInt_toInt64] at a1 a2
  have e0 : (0 : Int64).toInt = 0 := rfl
  have e3 : (3 : Int64).toInt = 3 := rfl
  omega
theorem cnt_vp {x : Int32} (h1 : ¬ x < 10) (h2 : ¬ 14 ≤ x) : vp_in (x - 10) 4 := by
  have h0 : ¬ x < 0 := fun q => h1 (Int32.lt_iff_toInt_lt.mpr (by have := Int32.lt_iff_toInt_lt.mp q; have a : (0 : Int32).toInt = 0 := rfl; have b : (10 : Int32).toInt = 10 := rfl; omega))
  obtain ⟨j, hj, rfl⟩ := nI_of h0
  have a1 : ¬ j < 10 := fun q => h1 ((nI_ltI (b := 10) hj (by decide)).mpr q)
  have a2 : ¬ 14 ≤ j := fun q => h2 ((nI_leI (a := 14) (by decide) hj).mpr q)
  rw [show (10 : Int32) = nI 10 from rfl, pk_sub (by omega)]
  exact vp_in_nI (by omega) (by decide)
theorem w_1_3 : (Jvm.Cond.initialized "GuaranteeBookModel") ∈ WSall := ws_in (tb1 (List.mem_of_getElem? (i := 3) rfl)) (by decide +kernel)
theorem w_3_36 : (Jvm.Cond.fieldLink "GuaranteeBookModel" (72 : Nat) "GuaranteeBookModel" "thrown" "I") ∈ WSall := ws_in (tb3 (List.mem_of_getElem? (i := 36) rfl)) (by decide +kernel)
theorem w_3_37 : (Jvm.Cond.fieldLink "GuaranteeBookModel" (76 : Nat) "GuaranteeBookModel" "guarantees" "I") ∈ WSall := ws_in (tb3 (List.mem_of_getElem? (i := 37) rfl)) (by decide +kernel)
theorem w_3_38 : (Jvm.Cond.fieldLink "GuaranteeBookModel" (100 : Nat) "GuaranteeBookModel" "today" "I") ∈ WSall := ws_in (tb3 (List.mem_of_getElem? (i := 38) rfl)) (by decide +kernel)
theorem w_3_39 : (Jvm.Cond.fieldLink "GuaranteeBookModel" (7 : Nat) "GuaranteeBookModel" "holder" "[I") ∈ WSall := ws_in (tb3 (List.mem_of_getElem? (i := 39) rfl)) (by decide +kernel)
theorem w_3_40 : (Jvm.Cond.fieldLink "GuaranteeBookModel" (13 : Nat) "GuaranteeBookModel" "amount" "[J") ∈ WSall := ws_in (tb3 (List.mem_of_getElem? (i := 40) rfl)) (by decide +kernel)
theorem w_3_41 : (Jvm.Cond.fieldLink "GuaranteeBookModel" (17 : Nat) "GuaranteeBookModel" "up" "[I") ∈ WSall := ws_in (tb3 (List.mem_of_getElem? (i := 41) rfl)) (by decide +kernel)
theorem w_3_42 : (Jvm.Cond.fieldLink "GuaranteeBookModel" (20 : Nat) "GuaranteeBookModel" "down" "[I") ∈ WSall := ws_in (tb3 (List.mem_of_getElem? (i := 42) rfl)) (by decide +kernel)
theorem w_3_43 : (Jvm.Cond.fieldLink "GuaranteeBookModel" (23 : Nat) "GuaranteeBookModel" "single" "[Z") ∈ WSall := ws_in (tb3 (List.mem_of_getElem? (i := 43) rfl)) (by decide +kernel)
theorem w_3_44 : (Jvm.Cond.fieldLink "GuaranteeBookModel" (27 : Nat) "GuaranteeBookModel" "rate" "[I") ∈ WSall := ws_in (tb3 (List.mem_of_getElem? (i := 44) rfl)) (by decide +kernel)
theorem w_3_45 : (Jvm.Cond.fieldLink "GuaranteeBookModel" (30 : Nat) "GuaranteeBookModel" "closed" "[Z") ∈ WSall := ws_in (tb3 (List.mem_of_getElem? (i := 45) rfl)) (by decide +kernel)
theorem w_3_46 : (Jvm.Cond.fieldLink "GuaranteeBookModel" (33 : Nat) "GuaranteeBookModel" "closedOn" "[I") ∈ WSall := ws_in (tb3 (List.mem_of_getElem? (i := 46) rfl)) (by decide +kernel)
theorem w_3_49 : (Jvm.Cond.fieldLink "GuaranteeBookModel" (42 : Nat) "GuaranteeBookModel" "since" "[I") ∈ WSall := ws_in (tb3 (List.mem_of_getElem? (i := 49) rfl)) (by decide +kernel)
theorem w_3_51 : (Jvm.Cond.fieldLink "GuaranteeBookModel" (79 : Nat) "GuaranteeBookModel" "reservations" "I") ∈ WSall := ws_in (tb3 (List.mem_of_getElem? (i := 51) rfl)) (by decide +kernel)
theorem w_3_55 : (Jvm.Cond.fieldLink "GuaranteeBookModel" (57 : Nat) "GuaranteeBookModel" "parts" "[I") ∈ WSall := ws_in (tb3 (List.mem_of_getElem? (i := 55) rfl)) (by decide +kernel)
theorem w_3_56 : (Jvm.Cond.fieldLink "GuaranteeBookModel" (60 : Nat) "GuaranteeBookModel" "part" "[I") ∈ WSall := ws_in (tb3 (List.mem_of_getElem? (i := 56) rfl)) (by decide +kernel)
theorem w_3_57 : (Jvm.Cond.fieldLink "GuaranteeBookModel" (63 : Nat) "GuaranteeBookModel" "covers" "[J") ∈ WSall := ws_in (tb3 (List.mem_of_getElem? (i := 57) rfl)) (by decide +kernel)
theorem w_3_117 : (Jvm.Cond.constantLong "GuaranteeBookModel" (82 : Nat) (1000000000 : Int64)) ∈ WSall := ws_in (tb3 (List.mem_of_getElem? (i := 117) rfl)) (by decide +kernel)
theorem w_3_150 : (Jvm.Cond.methodLink "GuaranteeBookModel" (120 : Nat) ({ cls := "GuaranteeBookModel", name := "may", desc := "(I)J" } : Jvm.MethodName)) ∈ WSall := ws_in (tb3 (List.mem_of_getElem? (i := 150) rfl)) (by decide +kernel)
theorem w_3_152 : (Jvm.Cond.instanceMethod ({ cls := "GuaranteeBookModel", name := "may", desc := "(I)J" } : Jvm.MethodName)) ∈ WSall := ws_in (tb3 (List.mem_of_getElem? (i := 152) rfl)) (by decide +kernel)
theorem w_3_153 : (Jvm.Cond.code ({ cls := "GuaranteeBookModel", name := "may", desc := "(I)J" } : Jvm.MethodName) prog_7_method_15_code (2 : Nat) (Option.some Jvm.ClassFile.FieldType.long)) ∈ WSall := ws_in (tb3 (List.mem_of_getElem? (i := 153) rfl)) (by decide +kernel)
theorem w_3_154 : (Jvm.Cond.methodLink "GuaranteeBookModel" (114 : Nat) ({ cls := "GuaranteeBookModel", name := "used", desc := "(I)I" } : Jvm.MethodName)) ∈ WSall := ws_in (tb3 (List.mem_of_getElem? (i := 154) rfl)) (by decide +kernel)
theorem w_3_156 : (Jvm.Cond.instanceMethod ({ cls := "GuaranteeBookModel", name := "used", desc := "(I)I" } : Jvm.MethodName)) ∈ WSall := ws_in (tb3 (List.mem_of_getElem? (i := 156) rfl)) (by decide +kernel)
theorem w_3_157 : (Jvm.Cond.code ({ cls := "GuaranteeBookModel", name := "used", desc := "(I)I" } : Jvm.MethodName) prog_7_method_13_code (5 : Nat) (Option.some Jvm.ClassFile.FieldType.int)) ∈ WSall := ws_in (tb3 (List.mem_of_getElem? (i := 157) rfl)) (by decide +kernel)
theorem w_3_158 : (Jvm.Cond.methodLink "GuaranteeBookModel" (117 : Nat) ({ cls := "GuaranteeBookModel", name := "freeOf", desc := "(I)J" } : Jvm.MethodName)) ∈ WSall := ws_in (tb3 (List.mem_of_getElem? (i := 158) rfl)) (by decide +kernel)
theorem w_3_160 : (Jvm.Cond.instanceMethod ({ cls := "GuaranteeBookModel", name := "freeOf", desc := "(I)J" } : Jvm.MethodName)) ∈ WSall := ws_in (tb3 (List.mem_of_getElem? (i := 160) rfl)) (by decide +kernel)
theorem w_3_161 : (Jvm.Cond.code ({ cls := "GuaranteeBookModel", name := "freeOf", desc := "(I)J" } : Jvm.MethodName) prog_7_method_14_code (4 : Nat) (Option.some Jvm.ClassFile.FieldType.long)) ∈ WSall := ws_in (tb3 (List.mem_of_getElem? (i := 161) rfl)) (by decide +kernel)
theorem w_3_162 : (Jvm.Cond.methodLink "GuaranteeBookModel" (110 : Nat) ({ cls := "GuaranteeBookModel", name := "needed", desc := "(I)J" } : Jvm.MethodName)) ∈ WSall := ws_in (tb3 (List.mem_of_getElem? (i := 162) rfl)) (by decide +kernel)
theorem w_3_164 : (Jvm.Cond.instanceMethod ({ cls := "GuaranteeBookModel", name := "needed", desc := "(I)J" } : Jvm.MethodName)) ∈ WSall := ws_in (tb3 (List.mem_of_getElem? (i := 164) rfl)) (by decide +kernel)
theorem w_3_165 : (Jvm.Cond.code ({ cls := "GuaranteeBookModel", name := "needed", desc := "(I)J" } : Jvm.MethodName) prog_7_method_12_code (6 : Nat) (Option.some Jvm.ClassFile.FieldType.long)) ∈ WSall := ws_in (tb3 (List.mem_of_getElem? (i := 165) rfl)) (by decide +kernel)
theorem w_3_166 : (Jvm.Cond.methodLink "GuaranteeBookModel" (106 : Nat) ({ cls := "GuaranteeBookModel", name := "needs", desc := "(IJ)J" } : Jvm.MethodName)) ∈ WSall := ws_in (tb3 (List.mem_of_getElem? (i := 166) rfl)) (by decide +kernel)
theorem w_3_168 : (Jvm.Cond.instanceMethod ({ cls := "GuaranteeBookModel", name := "needs", desc := "(IJ)J" } : Jvm.MethodName)) ∈ WSall := ws_in (tb3 (List.mem_of_getElem? (i := 168) rfl)) (by decide +kernel)
theorem w_3_169 : (Jvm.Cond.code ({ cls := "GuaranteeBookModel", name := "needs", desc := "(IJ)J" } : Jvm.MethodName) prog_7_method_11_code (6 : Nat) (Option.some Jvm.ClassFile.FieldType.long)) ∈ WSall := ws_in (tb3 (List.mem_of_getElem? (i := 169) rfl)) (by decide +kernel)
theorem w_3_170 : (Jvm.Cond.constantLong "GuaranteeBookModel" (123 : Nat) (2000000000 : Int64)) ∈ WSall := ws_in (tb3 (List.mem_of_getElem? (i := 170) rfl)) (by decide +kernel)
theorem w_3_210 : (Jvm.Cond.constantLong "GuaranteeBookModel" (147 : Nat) (3650000 : Int64)) ∈ WSall := ws_in (tb3 (List.mem_of_getElem? (i := 210) rfl)) (by decide +kernel)
theorem wp_13 : Cond.selects "GuaranteeBookModel" ⟨"GuaranteeBookModel", "may", "(I)J"⟩ ⟨"GuaranteeBookModel", "may", "(I)J"⟩ ∈ WSall := ws_in (List.mem_append_left _ (by decide +kernel)) (by decide +kernel)
theorem wp_14 : Cond.selects "GuaranteeBookModel" ⟨"GuaranteeBookModel", "used", "(I)I"⟩ ⟨"GuaranteeBookModel", "used", "(I)I"⟩ ∈ WSall := ws_in (List.mem_append_left _ (by decide +kernel)) (by decide +kernel)
theorem wp_15 : Cond.selects "GuaranteeBookModel" ⟨"GuaranteeBookModel", "freeOf", "(I)J"⟩ ⟨"GuaranteeBookModel", "freeOf", "(I)J"⟩ ∈ WSall := ws_in (List.mem_append_left _ (by decide +kernel)) (by decide +kernel)
theorem wp_16 : Cond.selects "GuaranteeBookModel" ⟨"GuaranteeBookModel", "needed", "(I)J"⟩ ⟨"GuaranteeBookModel", "needed", "(I)J"⟩ ∈ WSall := ws_in (List.mem_append_left _ (by decide +kernel)) (by decide +kernel)
theorem wp_17 : Cond.selects "GuaranteeBookModel" ⟨"GuaranteeBookModel", "needs", "(IJ)J"⟩ ⟨"GuaranteeBookModel", "needs", "(IJ)J"⟩ ∈ WSall := ws_in (List.mem_append_left _ (by decide +kernel)) (by decide +kernel)

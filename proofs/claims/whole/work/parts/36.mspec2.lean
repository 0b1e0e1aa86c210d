/-! THE MODEL'S METHODS, second part -/
theorem up_ne {β : Type} {f : Nat → β} {k j : Nat} {x : β} (h : j ≠ k) : va_up f k x j = f j := by simp [va_up, h]
/-- the model's order: places of the guarantees -/
def Or (μ : CS) (n : Nat) (O : List Nat) : Prop := O.length = n ∧ ∀ k g, O[k]? = some g → g < n ∧ fI μ 9 11 k = nI (g + 1)
theorem dr_cons {O : List Nat} {k g : Nat} {t : List Nat} (h : O.drop k = g :: t) : O[k]? = some g ∧ O.drop (k + 1) = t ∧ k < O.length := by
  have h0 : O[k]? = some g := by
    have := List.getElem?_drop (xs := O) (i := k) (j := 0)
    rw [h] at this
    exact this.symm
  have h1 : O.drop (k + 1) = t := by
    have := List.drop_drop (l := O) (i := 1) (j := k)
    rw [h] at this
    exact this.symm
  exact ⟨h0, h1, (List.getElem?_eq_some_iff.mp h0).1⟩
theorem dr_nil {O : List Nat} {k : Nat} (h : O.drop k = []) : O.length ≤ k := List.drop_eq_nil_iff.mp h
def mLsL (μ : CS) (h : Int32) : List Nat → Int32 → Int32
  | [], _ => -1
  | g :: t, left => if fI μ 9 0 (g + 1) = h then (if left = 0 then nI (g + 1) else mLsL μ h t (left - 1)) else mLsL μ h t (left - 0)
def mX1 (τ : CS) (r : Nat) (h : Int32) (g : Nat) : Int64 := if fI τ 9 0 (g + 1) = h then mMay τ (g + 1) r else 0
def mX (τ : CS) (r : Nat) (h : Int32) (g : Nat) (w : Int64) : Int64 := if w ≤ mX1 τ r h g then w else mX1 τ r h g
def mLayP (τ : CS) (r q g : Nat) (x : Int64) : CS := uL (uI τ 9 16 (4 * (r + 1) + q) (nI (g + 1))) 9 17 (4 * (r + 1) + q) x
def mLayE (τ : CS) (r q : Nat) (w : Int64) : CS := uI τ 9 15 (r + 1) (if w = 0 then nI q else 0)
def mLayL (r : Nat) (h : Int32) : List Nat → CS → Int64 → Nat → CS × Bool
  | [], τ, w, q => (mLayE τ r q w, decide (w = 0))
  | g :: t, τ, w, q => if w ≤ 0 then (mLayE τ r q w, decide (w = 0)) else if mX τ r h g w ≤ 0 then mLayL r h t τ w q else if nI q = 4 then (τ, false) else mLayL r h t (mLayP τ r q g (mX τ r h g w)) (w - mX τ r h g w) (q + 1)
theorem WFm_th {μ : CS} {n r : Nat} {y : Int32} (h : WFm μ n r) : WFm (uI μ 8 0 0 y) n r := h
theorem Or_th {μ : CS} {n : Nat} {O : List Nat} {y : Int32} (h : Or μ n O) : Or (uI μ 8 0 0 y) n O := h
theorem mP_ne {τ : CS} {j i f : Nat} {v : Int32} (h : i ≠ 15 ∨ f ≠ j) : mP (uI τ 9 i f v) j = mP τ j := by
  unfold mP
  rw [fI_uI]
  by_cases hi : i = 15
  · subst hi
    have hf : j ≠ f := fun e => by subst e; rcases h with h | h <;> exact h rfl
    rw [up3_at, up_ne hf]
  · rw [up3_ne _ _ _ (fun q => hi q.2.symm)]
theorem WFm_p {τ : CS} {n r q g : Nat} {x : Int64} (h : WFm τ n r) : WFm (mLayP τ r q g x) n r := by
  obtain ⟨h1, h2, h3, h4, h5, h6, h7, h8⟩ := h
  have e15 : fI (mLayP τ r q g x) 9 15 = fI τ 9 15 := rfl
  have emp : ∀ j, mP (mLayP τ r q g x) j = mP τ j := fun j => rfl
  refine ⟨h1, h2, h3, h4, h5, h6, fun j k hj1 hj2 hk => ?_, h8⟩
  rw [emp] at hk
  obtain ⟨p, hp, e⟩ := h6 j hj2
  have hk4 : k < 4 := by
    have : mP τ j = p := by unfold mP; rw [e]; exact nI_clamp (by omega)
    omega
  have e16 : fI (mLayP τ r q g x) 9 16 (4 * j + k) = fI τ 9 16 (4 * j + k) := by
    show fI (uI τ 9 16 (4 * (r + 1) + q) (nI (g + 1))) 9 16 (4 * j + k) = _
    rw [fI_uI, up3_at, up_ne (by omega)]
  rw [e16]
  exact h7 j k hj1 hj2 hk
theorem WFm_e {τ : CS} {n r q : Nat} {w : Int64} (h : WFm τ n r) : WFm (mLayE τ r q w) n r := by
  obtain ⟨h1, h2, h3, h4, h5, h6, h7, h8⟩ := h
  refine ⟨h1, h2, h3, h4, h5, fun j hj => ?_, fun j k hj1 hj2 hk => ?_, h8⟩
  · have e : fI (mLayE τ r q w) 9 15 j = fI τ 9 15 j := by
      show fI (uI τ 9 15 (r + 1) _) 9 15 j = _
      rw [fI_uI, up3_at, up_ne (by omega)]
    rw [e]
    exact h6 j hj
  · have emp : mP (mLayE τ r q w) j = mP τ j := mP_ne (Or.inr (by omega))
    rw [emp] at hk
    exact h7 j k hj1 hj2 hk
theorem WFm_lay {n r : Nat} {h : Int32} : ∀ (t : List Nat) (τ : CS) (w : Int64) (q : Nat), WFm τ n r → WFm (mLayL r h t τ w q).1 n r
  | [], τ, w, q, hw => WFm_e hw
  | g :: t, τ, w, q, hw => by
    rw [mLayL]
    split
    · exact WFm_e hw
    · split
      · exact WFm_lay t τ w q hw
      · split
        · exact hw
        · exact WFm_lay t _ _ _ (WFm_p hw)
def cResM (μ : CS) (n r : Nat) (O : List Nat) (d h : Int32) (x : Int64) : Int32 × CS := if pIn d.toInt64 0 3 then (if pHold h then (if pIn x 1 1000000000 then (if nI r = 60 then (0, uI μ 8 0 0 2) else if (mLayL r h O (uI μ 8 0 0 0) x 0).2 = true then (if fI (mLayL r h O (uI μ 8 0 0 0) x 0).1 9 18 d.toNatClampNeg = 0 then (nI (r + 1), uL (uI (uI (mLayL r h O (uI μ 8 0 0 0) x 0).1 8 0 15 (nI (r + 1))) 9 12 (r + 1) h) 9 13 (r + 1) x) else (-1, uI (uI (uI (mLayL r h O (uI μ 8 0 0 0) x 0).1 9 18 d.toNatClampNeg 0) 9 19 d.toNatClampNeg (fI (mLayL r h O (uI μ 8 0 0 0) x 0).1 9 19 d.toNatClampNeg + 1)) 9 15 (r + 1) 0)) else ((-2 - mTog (mLayL r h O (uI μ 8 0 0 0) x 0).1 n r h).toInt32, (mLayL r h O (uI μ 8 0 0 0) x 0).1)) else (0, uI μ 8 0 0 1)) else (0, uI μ 8 0 0 1)) else (0, uI μ 8 0 0 1)
/-- first: shifting the order by one place -/
def mShift : Nat → CS → CS
  | 0, τ => τ
  | k + 1, τ => mShift k (uI τ 9 11 (k + 1) (fI τ 9 11 k))
def mAny (μ : CS) (g : Nat) (A : List Nat) : Bool := A.any (fun a => decide (fI μ 9 0 (a + 1) = fI μ 9 0 (g + 1)))
def cFirM (μ : CS) (A : List Nat) (g : Nat) : Int32 × CS := if mAny μ g A = true then (1, uI (mShift A.length (uI μ 8 0 0 0)) 9 11 0 (nI (g + 1))) else (0, uI (uI μ 8 0 0 0) 9 11 A.length (nI (g + 1)))
theorem mShift_8 : ∀ (k : Nat) (τ : CS), fI (mShift k τ) 8 = fI τ 8
  | 0, _ => rfl
  | k + 1, τ => (mShift_8 k _).trans rfl
/-- reduce -/
def mMin (c left : Int64) : Int64 := if left ≤ c then left else c
def mRed (j : Nat) : Nat → CS → Int64 → Option CS
  | 0, τ, left => if left ≤ 0 then some τ else none
  | q + 1, τ, left => if left ≤ 0 then some τ else if fL τ 9 17 (4 * j + q) - mMin (fL τ 9 17 (4 * j + q)) left = 0 then mRed j q (uI (uL τ 9 17 (4 * j + q) (fL τ 9 17 (4 * j + q) - mMin (fL τ 9 17 (4 * j + q)) left)) 9 15 j (nI (q + 1) - 1)) (left - mMin (fL τ 9 17 (4 * j + q)) left) else some (uI (uL τ 9 17 (4 * j + q) (fL τ 9 17 (4 * j + q) - mMin (fL τ 9 17 (4 * j + q)) left)) 9 15 j (nI (q + 1) - 0))
theorem mRed_z {j q : Nat} {τ u : CS} {left : Int64} (h : mRed j q τ left = some u) (c : left ≤ 0) : u = τ := by
  cases q <;> (rw [mRed, if_pos c] at h; exact (Option.some.inj h).symm)
theorem mMin_nz {c left : Int64} (h : ¬ c - mMin c left = 0) : left - mMin c left = 0 := by
  unfold mMin at h ⊢
  split
  · rw [Int64.sub_self]
  · rename_i q
    rw [if_neg q, Int64.sub_self] at h
    exact absurd rfl h
def cRedM (μ : CS) (r : Nat) (x : Int32) (c : Int64) : Int64 × CS := match gIx x r with
  | none => (0, uI μ 8 0 0 1)
  | some j => if 1 ≤ c then (if fI μ 9 14 (j + 1) ≤ 0 then (if c < mCov μ (j + 1) (mP μ (j + 1)) then (match mRed (j + 1) (mP μ (j + 1)) (uI μ 8 0 0 0) c with
      | some u => (mCov u (j + 1) (mP u (j + 1)), u)
      | none => (0, μ)) else (-1, uI μ 8 0 0 0)) else (-1, uI μ 8 0 0 0)) else (0, uI μ 8 0 0 1)
theorem mCov_th {μ : CS} {y : Int32} {j : Nat} : ∀ k, mCov (uI μ 8 0 0 y) j k = mCov μ j k
  | 0 => rfl
  | k + 1 => by rw [mCov, mCov, mCov_th k]; rfl
theorem mRed_p {j : Nat} : ∀ (q : Nat) (τ u : CS) (left : Int64), q ≤ 4 → fI τ 9 15 j = nI q → mRed j q τ left = some u → ∃ p, p ≤ 4 ∧ fI u 9 15 j = nI p
  | 0, τ, u, left, _, h, e => by
    rw [mRed] at e
    split at e
    · cases e; exact ⟨0, by omega, h⟩
    · cases e
  | q + 1, τ, u, left, hq, h, e => by
    rw [mRed] at e
    split at e
    · cases e; exact ⟨q + 1, hq, h⟩
    · split at e
      · exact mRed_p q _ u _ (by omega) (by rw [fI_uI, up3_at, va_up_self, nI_pred]) e
      · cases e
        exact ⟨q + 1, hq, by rw [fI_uI, up3_at, va_up_self]; exact Int32.sub_zero _⟩
/-- claim -/
def mEnd (τ : CS) (g : Nat) : CS := uI (uL τ 9 9 g (fL τ 9 9 g + mRun τ g)) 9 10 g (fI τ 8 0 2)
def mLose (τ : CS) (g : Nat) (x : Int64) : CS := uL (uL (mEnd τ g) 9 1 g (fL τ 9 1 g - x)) 9 8 g (fL τ 9 8 g + x)
def mTkG (τ : CS) (j k : Nat) : Nat := (fI τ 9 16 (4 * j + k)).toNatClampNeg
def mTkX (τ : CS) (j k : Nat) (left : Int64) : Int64 := if fL τ 9 1 (mTkG τ j k) ≤ mMin (fL τ 9 17 (4 * j + k)) left then fL τ 9 1 (mTkG τ j k) else mMin (fL τ 9 17 (4 * j + k)) left
def mTk (μ : CS) (j : Nat) (c : Int64) : Nat → CS × Int64 × Int64
  | 0 => (μ, c, 0)
  | k + 1 => if mTkX (mTk μ j c k).1 j k (mTk μ j c k).2.1 ≤ 0 then ((mTk μ j c k).1, (mTk μ j c k).2.1 - mMin (fL (mTk μ j c k).1 9 17 (4 * j + k)) (mTk μ j c k).2.1, (mTk μ j c k).2.2) else (mLose (mTk μ j c k).1 (mTkG (mTk μ j c k).1 j k) (mTkX (mTk μ j c k).1 j k (mTk μ j c k).2.1), (mTk μ j c k).2.1 - mMin (fL (mTk μ j c k).1 9 17 (4 * j + k)) (mTk μ j c k).2.1, (mTk μ j c k).2.2 + mTkX (mTk μ j c k).1 j k (mTk μ j c k).2.1)
theorem mTk_I {μ : CS} {j : Nat} {c : Int64} {i : Nat} (hi : i ≠ 10) : ∀ k, fI (mTk μ j c k).1 9 i = fI μ 9 i
  | 0 => rfl
  | k + 1 => by
    unfold mTk; split
    · exact mTk_I hi k
    · show fI (mEnd _ _) 9 i = _
      rw [← mTk_I (μ := μ) (j := j) (c := c) hi k]
      show fI (uI _ 9 10 _ _) 9 i = _
      rw [fI_uI, up3_ne _ _ _ (fun q => hi q.2), fI_uL]
theorem mTk_8 {μ : CS} {j : Nat} {c : Int64} : ∀ k, fI (mTk μ j c k).1 8 = fI μ 8
  | 0 => rfl
  | k + 1 => by
    unfold mTk; split
    · exact mTk_8 k
    · exact (show fI (mLose _ _ _) 8 = fI (mTk μ j c k).1 8 from rfl).trans (mTk_8 k)
def cClmM (μ : CS) (r : Nat) (x : Int32) (c : Int64) : Int64 × CS := match gIx x r with
  | none => (0, uI μ 8 0 0 1)
  | some j => if 1 ≤ c then (if fI μ 9 14 (j + 1) ≤ 0 then (if c ≤ mCov μ (j + 1) (mP μ (j + 1)) then ((mTk (uI μ 8 0 0 0) (j + 1) c (mP μ (j + 1))).2.2, uI (uI (mTk (uI μ 8 0 0 0) (j + 1) c (mP μ (j + 1))).1 9 14 (j + 1) 3) 9 15 (j + 1) 0) else (-1, uI μ 8 0 0 0)) else (-1, uI μ 8 0 0 0)) else (0, uI μ 8 0 0 1)
def cLookM (μ : CS) (n r : Nat) (x w : Int32) : Int64 × CS := match gIx x n with
  | none => (0, uI μ 8 0 0 1)
  | some i => if w < 0 then (0, uI μ 8 0 0 1) else if w ≤ 8 then (if w = 0 then ((fI μ 9 0 (i + 1)).toInt64, uI μ 8 0 0 0) else if w = 1 then (fL μ 9 1 (i + 1), uI μ 8 0 0 0) else if w = 2 then (mNd (uI μ 8 0 0 0) (i + 1) r, uI μ 8 0 0 0) else if w = 3 then (mFree (uI μ 8 0 0 0) (i + 1) r, uI μ 8 0 0 0) else if w = 4 then (mMay (uI μ 8 0 0 0) (i + 1) r, uI μ 8 0 0 0) else if w = 5 then ((mUs (uI μ 8 0 0 0) (i + 1) r).toInt64, uI μ 8 0 0 0) else if w = 6 then (if fI μ 9 6 (i + 1) = 0 then 0 else 1, uI μ 8 0 0 0) else if w = 7 then (if mNd (uI μ 8 0 0 0) (i + 1) r - fL μ 9 1 (i + 1) ≤ 0 then 0 else mNd (uI μ 8 0 0 0) (i + 1) r - fL μ 9 1 (i + 1), uI μ 8 0 0 0) else (fL μ 9 8 (i + 1), uI μ 8 0 0 0)) else (0, uI μ 8 0 0 1)
def cOfM (μ : CS) (r : Nat) (x w : Int32) : Int64 × CS := match gIx x r with
  | none => (0, uI μ 8 0 0 1)
  | some j => if w < 0 then (0, uI μ 8 0 0 1) else if 13 ≤ w then (0, uI μ 8 0 0 1) else if w ≤ 4 then (if w = 0 then ((fI μ 9 12 (j + 1)).toInt64, uI μ 8 0 0 0) else if w = 1 then (fL μ 9 13 (j + 1), uI μ 8 0 0 0) else if w = 2 then (mCov μ (j + 1) (mP μ (j + 1)), uI μ 8 0 0 0) else if w = 3 then ((fI μ 9 14 (j + 1)).toInt64, uI μ 8 0 0 0) else ((fI μ 9 15 (j + 1)).toInt64, uI μ 8 0 0 0)) else if 9 ≤ w then (if w - 9 < fI μ 9 15 (j + 1) then (fL μ 9 17 (4 * (j + 1) + (w - 9).toNatClampNeg), uI μ 8 0 0 0) else (0, uI μ 8 0 0 1)) else (if w - 5 < fI μ 9 15 (j + 1) then ((fI μ 9 16 (4 * (j + 1) + (w - 5).toNatClampNeg)).toInt64, uI μ 8 0 0 0) else (0, uI μ 8 0 0 1))
theorem w_3_50 : (Jvm.Cond.fieldLink "GuaranteeBookModel" (45 : Nat) "GuaranteeBookModel" "order" "[I") ∈ WSall := ws_in (tb3 (List.mem_of_getElem? (i := 50) rfl)) (by decide +kernel)
theorem w_3_52 : (Jvm.Cond.fieldLink "GuaranteeBookModel" (48 : Nat) "GuaranteeBookModel" "of" "[I") ∈ WSall := ws_in (tb3 (List.mem_of_getElem? (i := 52) rfl)) (by decide +kernel)
theorem w_3_53 : (Jvm.Cond.fieldLink "GuaranteeBookModel" (51 : Nat) "GuaranteeBookModel" "made" "[J") ∈ WSall := ws_in (tb3 (List.mem_of_getElem? (i := 53) rfl)) (by decide +kernel)
theorem w_3_121 : (Jvm.Cond.constantLong "GuaranteeBookModel" (88 : Nat) (100 : Int64)) ∈ WSall := ws_in (tb3 (List.mem_of_getElem? (i := 121) rfl)) (by decide +kernel)
theorem w_3_122 : (Jvm.Cond.constantLong "GuaranteeBookModel" (90 : Nat) (1000 : Int64)) ∈ WSall := ws_in (tb3 (List.mem_of_getElem? (i := 122) rfl)) (by decide +kernel)
theorem w_3_123 : (Jvm.Cond.methodLink "GuaranteeBookModel" (92 : Nat) ({ cls := "GuaranteeBookModel", name := "isHolder", desc := "(I)Z" } : Jvm.MethodName)) ∈ WSall := ws_in (tb3 (List.mem_of_getElem? (i := 123) rfl)) (by decide +kernel)
theorem w_3_124 : (Jvm.Cond.static ({ cls := "GuaranteeBookModel", name := "isHolder", desc := "(I)Z" } : Jvm.MethodName)) ∈ WSall := ws_in (tb3 (List.mem_of_getElem? (i := 124) rfl)) (by decide +kernel)
theorem w_3_125 : (Jvm.Cond.code ({ cls := "GuaranteeBookModel", name := "isHolder", desc := "(I)Z" } : Jvm.MethodName) prog_7_method_7_code (1 : Nat) (Option.some Jvm.ClassFile.FieldType.boolean)) ∈ WSall := ws_in (tb3 (List.mem_of_getElem? (i := 125) rfl)) (by decide +kernel)
theorem w_3_146 : (Jvm.Cond.methodLink "GuaranteeBookModel" (125 : Nat) ({ cls := "GuaranteeBookModel", name := "together", desc := "(I)J" } : Jvm.MethodName)) ∈ WSall := ws_in (tb3 (List.mem_of_getElem? (i := 146) rfl)) (by decide +kernel)
theorem w_3_148 : (Jvm.Cond.instanceMethod ({ cls := "GuaranteeBookModel", name := "together", desc := "(I)J" } : Jvm.MethodName)) ∈ WSall := ws_in (tb3 (List.mem_of_getElem? (i := 148) rfl)) (by decide +kernel)
theorem w_3_149 : (Jvm.Cond.code ({ cls := "GuaranteeBookModel", name := "together", desc := "(I)J" } : Jvm.MethodName) prog_7_method_16_code (5 : Nat) (Option.some Jvm.ClassFile.FieldType.long)) ∈ WSall := ws_in (tb3 (List.mem_of_getElem? (i := 149) rfl)) (by decide +kernel)
theorem w_3_171 : (Jvm.Cond.constantLong "GuaranteeBookModel" (128 : Nat) (-1 : Int64)) ∈ WSall := ws_in (tb3 (List.mem_of_getElem? (i := 171) rfl)) (by decide +kernel)
theorem w_3_177 : (Jvm.Cond.methodLink "GuaranteeBookModel" (132 : Nat) ({ cls := "GuaranteeBookModel", name := "lays", desc := "(IJ)Z" } : Jvm.MethodName)) ∈ WSall := ws_in (tb3 (List.mem_of_getElem? (i := 177) rfl)) (by decide +kernel)
theorem w_3_179 : (Jvm.Cond.instanceMethod ({ cls := "GuaranteeBookModel", name := "lays", desc := "(IJ)Z" } : Jvm.MethodName)) ∈ WSall := ws_in (tb3 (List.mem_of_getElem? (i := 179) rfl)) (by decide +kernel)
theorem w_3_180 : (Jvm.Cond.code ({ cls := "GuaranteeBookModel", name := "lays", desc := "(IJ)Z" } : Jvm.MethodName) prog_7_method_18_code (12 : Nat) (Option.some Jvm.ClassFile.FieldType.boolean)) ∈ WSall := ws_in (tb3 (List.mem_of_getElem? (i := 180) rfl)) (by decide +kernel)
theorem w_3_181 : (Jvm.Cond.constantLong "GuaranteeBookModel" (136 : Nat) (-2 : Int64)) ∈ WSall := ws_in (tb3 (List.mem_of_getElem? (i := 181) rfl)) (by decide +kernel)
theorem wp_12 : Cond.selects "GuaranteeBookModel" ⟨"GuaranteeBookModel", "together", "(I)J"⟩ ⟨"GuaranteeBookModel", "together", "(I)J"⟩ ∈ WSall := ws_in (List.mem_append_left _ (by decide +kernel)) (by decide +kernel)
theorem wp_18 : Cond.selects "GuaranteeBookModel" ⟨"GuaranteeBookModel", "lays", "(IJ)Z"⟩ ⟨"GuaranteeBookModel", "lays", "(IJ)Z"⟩ ∈ WSall := ws_in (List.mem_append_left _ (by decide +kernel)) (by decide +kernel)

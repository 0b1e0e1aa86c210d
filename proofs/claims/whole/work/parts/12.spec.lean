/-! WHAT THE CLASS'S METHODS DO TO THE STATE, in the order of their own steps -/
def b2i (b : Bool) : Int32 := if b then 1 else 0
theorem b2i_t {b : Bool} (h : b = true) : b2i b = 1 := by simp [b2i, h]
theorem b2i_f {b : Bool} (h : ¬ b = true) : b2i b = 0 := by simp [b2i, h]
theorem b2i_0 {b : Bool} : b2i b = 0 ↔ ¬ b = true := by cases b <;> simp [b2i]
theorem b2i_n0 {b : Bool} : ¬ b2i b = 0 ↔ b = true := by cases b <;> simp [b2i]
def sMost (u d : Int32) (x : Int64) : Int64 := if u = 0 then 1000000000 else x * d.toInt64 / u.toInt64
def sNeed (u d : Int32) (x : Int64) : Int64 := if d = 0 then 0 else (x * u.toInt64 + d.toInt64 - 1) / d.toInt64
def gUnn (σ : CS) (i : Nat) : Int64 := if fL σ 1 i 5 - fL σ 1 i 6 < 0 then 0 else fL σ 1 i 5 - fL σ 1 i 6
def gRisk (σ : CS) (i : Nat) : Int64 := if fL σ 1 i 6 - fL σ 1 i 5 < 0 then 0 else fL σ 1 i 6 - fL σ 1 i 5
def gMay (σ : CS) (i : Nat) : Int64 := if ¬ fI σ 1 i 9 = 0 ∨ (¬ fI σ 1 i 3 = 0 ∧ ¬ fI σ 1 i 8 ≤ 0) then 0 else sMost (fI σ 2 i 0) (fI σ 2 i 1) (gUnn σ i)
def gNeed (σ : CS) (i : Nat) (x : Int64) : Int64 := sNeed (fI σ 2 i 0) (fI σ 2 i 1) x
def gCh1 (σ : CS) (i : Nat) (b a : Int64) : CS := uL σ 1 i 6 (fL σ 1 i 6 + (gNeed σ i a - gNeed σ i b))
def gCh2 (σ : CS) (i : Nat) (b : Int64) : CS := if b = 0 then uI σ 1 i 8 (fI σ 1 i 8 + 1) else σ
def gCh3 (σ : CS) (i : Nat) (a : Int64) : CS := if a = 0 then uI σ 1 i 8 (fI σ 1 i 8 - 1) else σ
def gChg (σ : CS) (i : Nat) (b a : Int64) : CS := gCh3 (gCh2 (gCh1 σ i b a) i b) i a
def nUp (σ : CS) (i : Nat) (day : Int32) (am : Int64) : Int64 := if fI σ 3 i 3 = 0 then fL σ 3 i 1 + am * (fI σ 3 i 0).toInt64 * (day - fI σ 3 i 2).toInt64 / 3650000 else fL σ 3 i 1
def nEnd (σ : CS) (i : Nat) (day : Int32) (am : Int64) : CS := uI (uL σ 3 i 1 (nUp σ i day am)) 3 i 2 day
def nStop (σ : CS) (i : Nat) (day : Int32) (am : Int64) : CS := uI (nEnd σ i day am) 3 i 3 1
def gLost (σ : CS) (i : Nat) (x : Int64) : Int64 := if x < fL σ 1 i 5 then x else fL σ 1 i 5
def gLo1 (σ : CS) (i : Nat) (y : Int64) : CS := uL σ 1 i 5 (fL σ 1 i 5 - y)
def gLo2 (σ : CS) (i : Nat) (y : Int64) : CS := uL σ 1 i 7 (fL σ 1 i 7 + y)
def gLose (σ : CS) (i : Nat) (x : Int64) (day : Int32) : CS := if gLost σ i x ≤ 0 then σ else gLo2 (gLo1 (nEnd σ i day (fL σ 1 i 5)) i (gLost σ i x)) i (gLost σ i x)
def gShut (σ : CS) (i : Nat) (day : Int32) : CS := uI (nStop σ i day (fL σ 1 i 5)) 1 i 9 1
/-- sums of the first n -/
def sumL (f : Nat → Int64) : Nat → Int64
  | 0 => 0
  | n + 1 => sumL f n + f n
def rBeg (σ : CS) (j : Nat) (h : Int32) (d : Int64) : CS := uI (uL (uI σ 4 j 3 h) 4 j 4 d) 4 j 2 0
def rAdd (σ : CS) (j n g : Nat) (x : Int64) : CS := uI (uL (uR σ 5 j n (some g)) 6 j n x) 4 j 2 (nI n + 1)
def rTell (σ : CS) (j i : Nat) (b a : Int64) : CS := match fR σ 5 j i with
  | some g => gChg σ g b a
  | none => σ
def rBind (σ : CS) (j : Nat) : Nat → CS
  | 0 => σ
  | n + 1 => rTell (rBind σ j n) j n 0 (fL (rBind σ j n) 6 j n)
def rDrop (σ : CS) (j : Nat) : Nat → CS
  | 0 => σ
  | n + 1 => rTell (rDrop σ j n) j n (fL (rDrop σ j n) 6 j n) 0
def lMin (x y : Int64) : Int64 := if y < x then y else x
def rSh1 (σ : CS) (j n : Nat) (left : Int64) : CS := rTell σ j n (fL σ 6 j n) (fL σ 6 j n - lMin left (fL σ 6 j n))
def rSh2 (σ : CS) (j n : Nat) (less : Int64) : CS := uL σ 6 j n (fL σ 6 j n - less)
def rSh3 (σ : CS) (j n : Nat) : CS := if fL σ 6 j n = 0 then uI σ 4 j 2 (nI n) else σ
def rShr (σ : CS) (j : Nat) : Nat → Int64 → CS
  | 0, _ => σ
  | n + 1, left => if left ≤ 0 then σ else rShr (rSh3 (rSh2 (rSh1 σ j n left) j n (lMin left (fL σ 6 j n))) j n) j n (left - lMin left (fL σ 6 j n))
/-- a claim's parts: the state, what is left, what was lost -/
def rTk (σ : CS) (j : Nat) (day : Int32) (c : Int64) : Nat → CS × Int64 × Int64
  | 0 => (σ, c, 0)
  | n + 1 => match fR (rTk σ j day c n).1 5 j n with
    | some g => (gLose (rTk σ j day c n).1 g (lMin (rTk σ j day c n).2.1 (fL (rTk σ j day c n).1 6 j n)) day, (rTk σ j day c n).2.1 - lMin (rTk σ j day c n).2.1 (fL (rTk σ j day c n).1 6 j n), (rTk σ j day c n).2.2 + gLost (rTk σ j day c n).1 g (lMin (rTk σ j day c n).2.1 (fL (rTk σ j day c n).1 6 j n)))
    | none => ((rTk σ j day c n).1, (rTk σ j day c n).2.1 - lMin (rTk σ j day c n).2.1 (fL (rTk σ j day c n).1 6 j n), (rTk σ j day c n).2.2)
/-- a chain of guarantees -/
def Ch (σ : CS) : Option Nat → List Nat → Prop
  | o, [] => o = none
  | o, i :: t => o = some i ∧ i < nG σ ∧ Ch σ (fR σ 1 i 10) t
def sumMay (σ : CS) : List Nat → Int64 → Int64
  | [], v => v
  | i :: t, v => sumMay σ t (v + gMay σ i)
theorem opt_or (o : Option Nat) : o = none ∨ ∃ j, o = some j := by cases o <;> simp
theorem i64_0 {d : Int32} (h : d.toInt64 = 0) : d = 0 := by
  have h1 := congrArg Int64.toInt h
  rw [Int32.toInt_toInt64] at h1
  exact Int32.toInt_inj.mp h1
theorem sw_out3 {x : Int32} (h0 : ¬ x = 0) (h1 : ¬ x = 1) (h2 : ¬ x = 2) (h3 : ¬ x = 3) : x.toInt < 0 ∨ (3 : Int) < x.toInt := by
  have a0 := lv_neT (a := 0) h0 (by decide); have a1 := lv_neT (a := 1) h1 (by decide); have a2 := lv_neT (a := 2) h2 (by decide); have a3 := lv_neT (a := 3) h3 (by decide)
  omega
theorem sw_out4 {x : Int32} (h0 : ¬ x = 0) (h1 : ¬ x = 1) (h2 : ¬ x = 2) (h3 : ¬ x = 3) (h4 : ¬ x = 4) : x.toInt < 0 ∨ (4 : Int) < x.toInt := by
  have a0 := lv_neT (a := 0) h0 (by decide); have a1 := lv_neT (a := 1) h1 (by decide); have a2 := lv_neT (a := 2) h2 (by decide); have a3 := lv_neT (a := 3) h3 (by decide); have a4 := lv_neT (a := 4) h4 (by decide)
  omega
theorem sw_out7 {x : Int32} (h0 : ¬ x = 0) (h1 : ¬ x = 1) (h2 : ¬ x = 2) (h3 : ¬ x = 3) (h4 : ¬ x = 4) (h5 : ¬ x = 5) (h6 : ¬ x = 6) (h7 : ¬ x = 7) : x.toInt < 0 ∨ (7 : Int) < x.toInt := by
  have a0 := lv_neT (a := 0) h0 (by decide); have a1 := lv_neT (a := 1) h1 (by decide); have a2 := lv_neT (a := 2) h2 (by decide); have a3 := lv_neT (a := 3) h3 (by decide); have a4 := lv_neT (a := 4) h4 (by decide); have a5 := lv_neT (a := 5) h5 (by decide); have a6 := lv_neT (a := 6) h6 (by decide); have a7 := lv_neT (a := 7) h7 (by decide)
  omega
theorem sw_out8 {x : Int32} (h0 : ¬ x = 0) (h1 : ¬ x = 1) (h2 : ¬ x = 2) (h3 : ¬ x = 3) (h4 : ¬ x = 4) (h5 : ¬ x = 5) (h6 : ¬ x = 6) (h7 : ¬ x = 7) (h8 : ¬ x = 8) : x.toInt < 0 ∨ (8 : Int) < x.toInt := by
  have a0 := lv_neT (a := 0) h0 (by decide); have a1 := lv_neT (a := 1) h1 (by decide); have a2 := lv_neT (a := 2) h2 (by decide); have a3 := lv_neT (a := 3) h3 (by decide); have a4 := lv_neT (a := 4) h4 (by decide); have a5 := lv_neT (a := 5) h5 (by decide); have a6 := lv_neT (a := 6) h6 (by decide); have a7 := lv_neT (a := 7) h7 (by decide); have a8 := lv_neT (a := 8) h8 (by decide)
  omega
def bp (P : Prop) (d : Decidable P) : Int32 := @ite Int32 P d 1 0
theorem bp_0 {P : Prop} {d : Decidable P} : bp P d = 0 ↔ ¬ P := by unfold bp; split <;> simp [*]
theorem bp_n0 {P : Prop} {d : Decidable P} : ¬ bp P d = 0 ↔ P := by unfold bp; split <;> simp [*]
theorem bp_t {P : Prop} {d : Decidable P} (h : P) : (1 : Int32) = bp P d := by unfold bp; rw [if_pos h]
theorem bp_f {P : Prop} {d : Decidable P} (h : ¬ P) : (0 : Int32) = bp P d := by unfold bp; rw [if_neg h]
abbrev pHold (x : Int32) : Prop := ¬ x < 0 ∧ ¬ 8 ≤ x
abbrev pDesk (x : Int32) : Prop := ¬ x < 0 ∧ ¬ 4 ≤ x
abbrev pCent (x : Int64) : Prop := ¬ x < 1 ∧ ¬ 1000000000 < x
abbrev pShare (u d : Int32) : Prop := ¬ u < 0 ∧ ¬ d < 1 ∧ ¬ 100 < d ∧ ¬ d < u
theorem bp_nar {P : Prop} {d : Decidable P} : narrow .boolean (.int (bp P d)) = .int (bp P d) := by unfold bp; split <;> rfl
theorem num_in {x : Int32} {n : Nat} (h1 : ¬ x < 1) (h2 : ¬ nI n < x) (hn : n < 2 ^ 31) : ∃ i, i < n ∧ x = nI (i + 1) := by
  have h0 : ¬ x < 0 := fun h => h1 (Int32.lt_iff_toInt_lt.mpr (by have := Int32.lt_iff_toInt_lt.mp h; have a : (0 : Int32).toInt = 0 := rfl; have b : (1 : Int32).toInt = 1 := rfl; omega))
  obtain ⟨j, hj, rfl⟩ := nI_of h0
  have a1 : ¬ j < 1 := fun h => h1 ((nI_ltI (a := j) (b := 1) (by omega) (by decide)).mpr h)
  have a2 : ¬ n < j := fun h => h2 ((nI_ltI hn hj).mpr h)
  exact ⟨j - 1, by omega, by rw [show j - 1 + 1 = j by omega]⟩
theorem lp_end {x : Int32} {n k : Nat} (hn : x = nI n) (c : x ≤ nI k) (hk : k ≤ n) (h : n < 2 ^ 31) : k = n := by
  rw [hn] at c
  have := (nI_leI h (by omega)).mp c
  omega
theorem lp_lt {x : Int32} {n k : Nat} (hn : x = nI n) (c : ¬ x ≤ nI k) (h : k < 2 ^ 31) : k < n := by
  rcases Nat.lt_or_ge k n with h1 | h1
  · exact h1
  · exact absurd (by rw [hn]; exact nI_le h1 h) c
/-- the book's own part of the state is well made: n guarantees, r reservations and a draft -/
def WFc (σ : CS) (n r : Nat) : Prop := nG σ = n ∧ nR σ = r + 1 ∧ n ≤ 20 ∧ r ≤ 60 ∧ fI σ 0 0 6 = nI n ∧ fI σ 0 0 7 = nI r ∧ fR σ 0 0 5 = some r ∧ (∀ i, i < n → fR σ 7 0 i = some i) ∧ (∀ j, j < r → fR σ 7 2 j = some j) ∧ (∀ i, i < n → ∃ h, h < 8 ∧ fI σ 1 i 1 = nI h) ∧ (∀ j, j ≤ r → ∃ p, p ≤ 4 ∧ fI σ 4 j 2 = nI p ∧ ∀ k, k < p → ∃ g, fR σ 5 j k = some g ∧ g < n)
def lsAt (σ : CS) (i : Int32) : List Nat → Int32 → Int32
  | [], _ => -1
  | g :: t, a => if a = i then fI σ 1 g 0 else lsAt σ i t (a + 1)
def dLay (σ : CS) (r : Nat) : List Nat → Int64 → Nat → CS × Bool
  | [], w, _ => (σ, decide (w = 0))
  | g :: t, w, n => if w ≤ 0 then (σ, decide (w = 0)) else if lMin w (gMay σ g) ≤ 0 then dLay σ r t (w - lMin w (gMay σ g)) n else if n < 4 then dLay (rAdd σ r n g (lMin w (gMay σ g))) r t (w - lMin w (gMay σ g)) (n + 1) else (σ, false)
def pLast (σ : CS) (h g : Nat) (L : List Nat) : CS := match L.getLast? with
  | none => uR σ 7 1 h (some g)
  | some z => uR σ 1 z 10 (some g)
def pFirst (σ : CS) (h b g : Nat) : CS := uR (uR (uR σ 1 b 10 (fR σ 1 g 10)) 1 g 10 (fR σ 7 1 h)) 7 1 h (some g)
def kDraft (σ : CS) (r n : Nat) : CS := uI (uI (uR (rBind σ r n) 7 2 r (some r)) 0 0 7 (fI (uR (rBind σ r n) 7 2 r (some r)) 0 0 7 + 1)) 0 0 8 (fI (uI (uR (rBind σ r n) 7 2 r (some r)) 0 0 7 (fI (uR (rBind σ r n) 7 2 r (some r)) 0 0 7 + 1)) 0 0 8 + 1)
def rFin (σ : CS) (j : Nat) (how : Int32) : CS := uI (uI σ 4 j 5 how) 0 0 8 (fI (uI σ 4 j 5 how) 0 0 8 - 1)
theorem hold_in {x : Int32} (h : pHold x) : ∃ k : Nat, k < 8 ∧ x = nI k := by
  obtain ⟨h1, h2⟩ := h
  obtain ⟨j, hj, rfl⟩ := nI_of h1
  exact ⟨j, by
    rcases Nat.lt_or_ge j 8 with q | q
    · exact q
    · exact absurd (nI_le (a := 8) q hj) h2, rfl⟩
theorem hold_ok {k : Nat} (h : k < 8) : pHold (nI k) := ⟨nI_pos (by omega), fun q => by have := (nI_leI (a := 8) (b := k) (by decide) (by omega)).mp q; omega⟩
def gIx (x : Int32) (n : Nat) : Option Nat := if x < 1 ∨ nI n < x then none else some ((x - 1).toNatClampNeg)
theorem gIx_some {x : Int32} {n i : Nat} (hi : i < n) (hn : n < 2 ^ 30) (e : x = nI (i + 1)) : gIx x n = some i := by
  subst e
  unfold gIx
  rw [if_neg, nI_pred, nI_clamp (by omega)]
  intro h
  rcases h with h | h
  · have := (nI_ltI (a := i + 1) (b := 1) (by omega) (by decide)).mp h; omega
  · have := (nI_ltI (a := n) (b := i + 1) (by omega) (by omega)).mp h; omega
theorem gIx_none {x : Int32} {n : Nat} (h : x < 1 ∨ nI n < x) : gIx x n = none := if_pos h
def cTick (σ : CS) (x : Int32) : Int32 × CS := if x < fI σ 0 0 9 then (0, σ) else if x ≤ 100000 then (1, uI σ 0 0 9 x) else (0, σ)
def cFails (σ : CS) (x on : Int32) : Int32 × CS := if pDesk x then (if fI σ 7 3 x.toNatClampNeg = on then (0, σ) else (1, uI σ 7 3 x.toNatClampNeg on)) else (0, σ)
def cCount (σ : CS) (x : Int32) : Int32 := if ¬ x < 10 ∧ pDesk (x - 10) then fI σ 7 4 (x - 10).toNatClampNeg else if x = 0 then fI σ 0 0 6 else if x = 1 then fI σ 0 0 7 else if x = 2 then fI σ 0 0 8 else if x = 3 then fI σ 0 0 9 else -1
def cFree (σ : CS) (L : Nat → List Nat) (x : Int32) : Int64 := if pHold x then lMin (sumMay σ (L x.toNatClampNeg) 0) 2000000000 else -1
def cClose (σ : CS) (n : Nat) (x : Int32) : Int32 × CS := match gIx x n with
  | none => (0, σ)
  | some i => if fI σ 1 i 9 = 0 then (1, gShut σ i (fI σ 0 0 9)) else (0, σ)
theorem desk_in {x : Int32} (h : pDesk x) : ∃ k : Nat, k < 4 ∧ x = nI k := by
  obtain ⟨h1, h2⟩ := h
  obtain ⟨j, hj, rfl⟩ := nI_of h1
  exact ⟨j, by
    rcases Nat.lt_or_ge j 4 with q | q
    · exact q
    · exact absurd (nI_le (a := 4) q hj) h2, rfl⟩
theorem desk_vp {x : Int32} (h : pDesk x) : vp_in x 4 := by
  obtain ⟨k, hk, rfl⟩ := desk_in h
  exact vp_in_nI hk (by decide)
theorem rf_nar (C : String) (o : Option Nat) : narrow (.object C) (va_rf o) = va_rf o := by cases o <;> rfl
theorem rf_fit (C : String) (o : Option Nat) : fits (.object C) (va_rf o) = true := by cases o <;> rfl
/-- methods that throw: (0, answer, state), or (1 or 2, 0, the same state) -/
def cInterest (σ : CS) (n : Nat) (x : Int32) : Int32 × Int64 × CS := match gIx x n with
  | none => (1, 0, σ)
  | some i => (0, nUp σ i (fI σ 0 0 9) (fL σ 1 i 5), σ)
def cLook (σ : CS) (n : Nat) (x w : Int32) : Int32 × Int64 × CS := match gIx x n with
  | none => (1, 0, σ)
  | some i => if w = 0 then (0, (fI σ 1 i 1).toInt64, σ) else if w = 1 then (0, fL σ 1 i 5, σ) else if w = 2 then (0, fL σ 1 i 6, σ) else if w = 3 then (0, gUnn σ i, σ) else if w = 4 then (0, gMay σ i, σ) else if w = 5 then (0, (fI σ 1 i 8).toInt64, σ) else if w = 6 then (0, if fI σ 1 i 9 = 0 then 0 else 1, σ) else if w = 7 then (0, gRisk σ i, σ) else if w = 8 then (0, fL σ 1 i 7, σ) else (1, 0, σ)
def pN (σ : CS) (j : Nat) : Nat := (fI σ 4 j 2).toNatClampNeg
theorem pN_of {σ : CS} {j p : Nat} (h : fI σ 4 j 2 = nI p) (hp : p ≤ 4) : pN σ j = p := by unfold pN; rw [h]; exact nI_clamp (by omega)
def rGo (σ : CS) (j : Nat) (how : Int32) : CS := rFin (uI (rDrop σ j (pN σ j)) 4 j 2 0) j how
def rCov (σ : CS) (j : Nat) : Int64 := sumL (fL σ 6 j) (pN σ j)
def cEnd (σ : CS) (r : Nat) (x how : Int32) : Int32 × Int32 × CS := match gIx x r with
  | none => (1, 0, σ)
  | some j => if how = 1 then (if fI σ 4 j 5 = 0 then (0, 1, rGo σ j how) else (0, 0, σ)) else if how = 2 then (if fI σ 4 j 5 = 0 then (0, 1, rGo σ j how) else (0, 0, σ)) else (1, 0, σ)
def cReduce (σ : CS) (r : Nat) (x : Int32) (c : Int64) : Int32 × Int64 × CS := match gIx x r with
  | none => (1, 0, σ)
  | some j => if 1 ≤ c then (if fI σ 4 j 5 = 0 then (if c < rCov σ j then (0, rCov (rShr σ j (pN σ j) c) j, rShr σ j (pN σ j) c) else (0, -1, σ)) else (0, -1, σ)) else (1, 0, σ)
def cClaim (σ : CS) (r : Nat) (x : Int32) (c : Int64) : Int32 × Int64 × CS := match gIx x r with
  | none => (1, 0, σ)
  | some j => if 1 ≤ c then (if fI σ 4 j 5 = 0 then (if c ≤ rCov σ j then (0, (rTk σ j (fI σ 0 0 9) c (pN σ j)).2.2, rGo (rTk σ j (fI σ 0 0 9) c (pN σ j)).1 j 3) else (0, -1, σ)) else (0, -1, σ)) else (1, 0, σ)
abbrev pHas (σ : CS) (j : Nat) (x : Int32) : Prop := ¬ x < 0 ∧ ¬ fI σ 4 j 2 ≤ x
def oNum (σ : CS) (j : Nat) (x : Int32) : Int64 := match fR σ 5 j x.toNatClampNeg with
  | some g => (fI σ 1 g 0).toInt64
  | none => -1
def cOf (σ : CS) (r : Nat) (x w : Int32) : Int32 × Int64 × CS := match gIx x r with
  | none => (1, 0, σ)
  | some j => if pHas σ j (w - 5) then (0, oNum σ j (w - 5), σ) else if pHas σ j (w - 9) then (0, fL σ 6 j (w - 9).toNatClampNeg, σ) else if w = 0 then (0, (fI σ 4 j 3).toInt64, σ) else if w = 1 then (0, fL σ 4 j 4, σ) else if w = 2 then (0, rCov σ j, σ) else if w = 3 then (0, (fI σ 4 j 5).toInt64, σ) else if w = 4 then (0, (fI σ 4 j 2).toInt64, σ) else (1, 0, σ)
theorem has_in {σ : CS} {j p : Nat} {x : Int32} (h : pHas σ j x) (hp : fI σ 4 j 2 = nI p) (h4 : p ≤ 4) : ∃ k, k < p ∧ x = nI k := by
  obtain ⟨h1, h2⟩ := h
  obtain ⟨k, hk, rfl⟩ := nI_of h1
  exact ⟨k, by
    rcases Nat.lt_or_ge k p with q | q
    · exact q
    · exact absurd (by rw [hp]; exact nI_le q hk) h2, rfl⟩
/-! what stays when a part is told, bound or dropped -/
theorem gChg_I {σ : CS} {i : Nat} {b a : Int64} {k : Nat} (hk : k ≠ 1) : fI (gChg σ i b a) k = fI σ k := by
  unfold gChg gCh3 gCh2 gCh1
  split <;> split <;> simp [fI_uI, fI_uL, fI_uR, fL_uI, fL_uL, fL_uR, fR_uI, fR_uL, fR_uR, nG_uI, nG_uL, nG_uR, nR_uI, nR_uL, nR_uR, up3, va_up, hk]
theorem gChg_L {σ : CS} {i : Nat} {b a : Int64} {k : Nat} (hk : k ≠ 1) : fL (gChg σ i b a) k = fL σ k := by
  unfold gChg gCh3 gCh2 gCh1
  split <;> split <;> simp [fI_uI, fI_uL, fI_uR, fL_uI, fL_uL, fL_uR, fR_uI, fR_uL, fR_uR, nG_uI, nG_uL, nG_uR, nR_uI, nR_uL, nR_uR, up3, va_up, hk]
theorem gChg_R {σ : CS} {i : Nat} {b a : Int64} : fR (gChg σ i b a) = fR σ := by
  unfold gChg gCh3 gCh2 gCh1
  split <;> split <;> simp [fI_uI, fI_uL, fI_uR, fL_uI, fL_uL, fL_uR, fR_uI, fR_uL, fR_uR, nG_uI, nG_uL, nG_uR, nR_uI, nR_uL, nR_uR]
theorem gChg_G {σ : CS} {i : Nat} {b a : Int64} : nG (gChg σ i b a) = nG σ := by
  unfold gChg gCh3 gCh2 gCh1
  split <;> split <;> simp [fI_uI, fI_uL, fI_uR, fL_uI, fL_uL, fL_uR, fR_uI, fR_uL, fR_uR, nG_uI, nG_uL, nG_uR, nR_uI, nR_uL, nR_uR]
theorem gChg_N {σ : CS} {i : Nat} {b a : Int64} : nR (gChg σ i b a) = nR σ := by
  unfold gChg gCh3 gCh2 gCh1
  split <;> split <;> simp [fI_uI, fI_uL, fI_uR, fL_uI, fL_uL, fL_uR, fR_uI, fR_uL, fR_uR, nG_uI, nG_uL, nG_uR, nR_uI, nR_uL, nR_uR]
theorem rTell_I {σ : CS} {j i : Nat} {b a : Int64} {k : Nat} (hk : k ≠ 1) : fI (rTell σ j i b a) k = fI σ k := by
  unfold rTell; split
  · exact gChg_I hk
  · rfl
theorem rTell_L {σ : CS} {j i : Nat} {b a : Int64} {k : Nat} (hk : k ≠ 1) : fL (rTell σ j i b a) k = fL σ k := by
  unfold rTell; split
  · exact gChg_L hk
  · rfl
theorem rTell_R {σ : CS} {j i : Nat} {b a : Int64} : fR (rTell σ j i b a) = fR σ := by
  unfold rTell; split
  · exact gChg_R
  · rfl
theorem rTell_G {σ : CS} {j i : Nat} {b a : Int64} : nG (rTell σ j i b a) = nG σ := by
  unfold rTell; split
  · exact gChg_G
  · rfl
theorem rTell_N {σ : CS} {j i : Nat} {b a : Int64} : nR (rTell σ j i b a) = nR σ := by
  unfold rTell; split
  · exact gChg_N
  · rfl
theorem rBind_I {σ : CS} {j k : Nat} (hk : k ≠ 1) : ∀ n, fI (rBind σ j n) k = fI σ k
  | 0 => rfl
  | n + 1 => (rTell_I hk).trans (rBind_I hk n)
theorem rBind_L {σ : CS} {j k : Nat} (hk : k ≠ 1) : ∀ n, fL (rBind σ j n) k = fL σ k
  | 0 => rfl
  | n + 1 => (rTell_L hk).trans (rBind_L hk n)
theorem rBind_R {σ : CS} {j : Nat} : ∀ n, fR (rBind σ j n) = fR σ
  | 0 => rfl
  | n + 1 => rTell_R.trans (rBind_R n)
theorem rBind_G {σ : CS} {j : Nat} : ∀ n, nG (rBind σ j n) = nG σ
  | 0 => rfl
  | n + 1 => rTell_G.trans (rBind_G n)
theorem rBind_N {σ : CS} {j : Nat} : ∀ n, nR (rBind σ j n) = nR σ
  | 0 => rfl
  | n + 1 => rTell_N.trans (rBind_N n)
theorem rDrop_I {σ : CS} {j k : Nat} (hk : k ≠ 1) : ∀ n, fI (rDrop σ j n) k = fI σ k
  | 0 => rfl
  | n + 1 => (rTell_I hk).trans (rDrop_I hk n)
theorem rDrop_L {σ : CS} {j k : Nat} (hk : k ≠ 1) : ∀ n, fL (rDrop σ j n) k = fL σ k
  | 0 => rfl
  | n + 1 => (rTell_L hk).trans (rDrop_L hk n)
theorem rDrop_R {σ : CS} {j : Nat} : ∀ n, fR (rDrop σ j n) = fR σ
  | 0 => rfl
  | n + 1 => rTell_R.trans (rDrop_R n)
theorem rDrop_G {σ : CS} {j : Nat} : ∀ n, nG (rDrop σ j n) = nG σ
  | 0 => rfl
  | n + 1 => rTell_G.trans (rDrop_G n)
theorem rDrop_N {σ : CS} {j : Nat} : ∀ n, nR (rDrop σ j n) = nR σ
  | 0 => rfl
  | n + 1 => rTell_N.trans (rDrop_N n)
theorem i_m1 (x : Int32) : x + (-1) = x - 1 := by rw [Int32.sub_eq_add_neg]
theorem gLose_I {σ : CS} {i : Nat} {x : Int64} {day : Int32} {k : Nat} (h1 : k ≠ 1) (h3 : k ≠ 3) : fI (gLose σ i x day) k = fI σ k := by
  unfold gLose; split
  · rfl
  · simp [gLo1, gLo2, nEnd, fI_uI, fI_uL, fI_uR, fL_uI, fL_uL, fL_uR, fR_uI, fR_uL, fR_uR, nG_uI, nG_uL, nG_uR, nR_uI, nR_uL, nR_uR, up3, va_up, h1, h3]
theorem gLose_L {σ : CS} {i : Nat} {x : Int64} {day : Int32} {k : Nat} (h1 : k ≠ 1) (h3 : k ≠ 3) : fL (gLose σ i x day) k = fL σ k := by
  unfold gLose; split
  · rfl
  · simp [gLo1, gLo2, nEnd, fI_uI, fI_uL, fI_uR, fL_uI, fL_uL, fL_uR, fR_uI, fR_uL, fR_uR, nG_uI, nG_uL, nG_uR, nR_uI, nR_uL, nR_uR, up3, va_up, h1, h3]
theorem gLose_R {σ : CS} {i : Nat} {x : Int64} {day : Int32} : fR (gLose σ i x day) = fR σ := by
  unfold gLose; split
  · rfl
  · simp [gLo1, gLo2, nEnd, fI_uI, fI_uL, fI_uR, fL_uI, fL_uL, fL_uR, fR_uI, fR_uL, fR_uR, nG_uI, nG_uL, nG_uR, nR_uI, nR_uL, nR_uR]
theorem gLose_G {σ : CS} {i : Nat} {x : Int64} {day : Int32} : nG (gLose σ i x day) = nG σ := by
  unfold gLose; split
  · rfl
  · simp [gLo1, gLo2, nEnd, fI_uI, fI_uL, fI_uR, fL_uI, fL_uL, fL_uR, fR_uI, fR_uL, fR_uR, nG_uI, nG_uL, nG_uR, nR_uI, nR_uL, nR_uR]
theorem gLose_N {σ : CS} {i : Nat} {x : Int64} {day : Int32} : nR (gLose σ i x day) = nR σ := by
  unfold gLose; split
  · rfl
  · simp [gLo1, gLo2, nEnd, fI_uI, fI_uL, fI_uR, fL_uI, fL_uL, fL_uR, fR_uI, fR_uL, fR_uR, nG_uI, nG_uL, nG_uR, nR_uI, nR_uL, nR_uR]
theorem rTk_I {σ : CS} {j : Nat} {day : Int32} {c : Int64} {k : Nat} (h1 : k ≠ 1) (h3 : k ≠ 3) : ∀ n, fI (rTk σ j day c n).1 k = fI σ k
  | 0 => rfl
  | n + 1 => by
    unfold rTk; split
    · exact (gLose_I h1 h3).trans (rTk_I h1 h3 n)
    · exact rTk_I h1 h3 n
theorem rTk_L {σ : CS} {j : Nat} {day : Int32} {c : Int64} {k : Nat} (h1 : k ≠ 1) (h3 : k ≠ 3) : ∀ n, fL (rTk σ j day c n).1 k = fL σ k
  | 0 => rfl
  | n + 1 => by
    unfold rTk; split
    · exact (gLose_L h1 h3).trans (rTk_L h1 h3 n)
    · exact rTk_L h1 h3 n
theorem rTk_R {σ : CS} {j : Nat} {day : Int32} {c : Int64} : ∀ n, fR (rTk σ j day c n).1 = fR σ
  | 0 => rfl
  | n + 1 => by
    unfold rTk; split
    · exact gLose_R.trans (rTk_R n)
    · exact rTk_R n
theorem rTk_G {σ : CS} {j : Nat} {day : Int32} {c : Int64} : ∀ n, nG (rTk σ j day c n).1 = nG σ
  | 0 => rfl
  | n + 1 => by
    unfold rTk; split
    · exact gLose_G.trans (rTk_G n)
    · exact rTk_G n
theorem rTk_N {σ : CS} {j : Nat} {day : Int32} {c : Int64} : ∀ n, nR (rTk σ j day c n).1 = nR σ
  | 0 => rfl
  | n + 1 => by
    unfold rTk; split
    · exact gLose_N.trans (rTk_N n)
    · exact rTk_N n
theorem rTk_s {σ : CS} {j : Nat} {day : Int32} {c : Int64} {n g : Nat} (h : fR (rTk σ j day c n).1 5 j n = some g) : rTk σ j day c (n + 1) = (gLose (rTk σ j day c n).1 g (lMin (rTk σ j day c n).2.1 (fL (rTk σ j day c n).1 6 j n)) day, (rTk σ j day c n).2.1 - lMin (rTk σ j day c n).2.1 (fL (rTk σ j day c n).1 6 j n), (rTk σ j day c n).2.2 + gLost (rTk σ j day c n).1 g (lMin (rTk σ j day c n).2.1 (fL (rTk σ j day c n).1 6 j n))) := by
  rw [rTk, h]
theorem rAdd_n {σ : CS} {j n g : Nat} {x : Int64} : fI (rAdd σ j n g x) 4 j 2 = nI (n + 1) := by
  unfold rAdd; rw [fI_uI, up3_at, va_up_self, nI_1]
theorem rAdd_I {σ : CS} {j n g : Nat} {x : Int64} {k : Nat} (hk : k ≠ 4) : fI (rAdd σ j n g x) k = fI σ k := by
  unfold rAdd; simp [fI_uI, fI_uL, fI_uR, up3, va_up, hk]
theorem rAdd_R1 {σ : CS} {j n g : Nat} {x : Int64} {k : Nat} (hk : k ≠ 5) : fR (rAdd σ j n g x) k = fR σ k := by
  unfold rAdd; simp [fR_uI, fR_uL, fR_uR, up3, va_up, hk]
theorem rAdd_L {σ : CS} {j n g : Nat} {x : Int64} {k : Nat} (hk : k ≠ 6) : fL (rAdd σ j n g x) k = fL σ k := by
  unfold rAdd; simp [fL_uI, fL_uL, fL_uR, up3, va_up, hk]
theorem Ch_of {σ σ' : CS} (h1 : fR σ' 1 = fR σ 1) (h2 : nG σ' = nG σ) : ∀ (t : List Nat) (o : Option Nat), Ch σ o t → Ch σ' o t
  | [], _, h => h
  | i :: t, o, h => ⟨h.1, by rw [h2]; exact h.2.1, by rw [h1]; exact Ch_of h1 h2 t _ h.2.2⟩
theorem rBeg_n {σ : CS} {j : Nat} {h : Int32} {d : Int64} : fI (rBeg σ j h d) 4 j 2 = nI 0 := by
  unfold rBeg; rw [fI_uI, up3_at, va_up_self]; rfl
theorem rSh_R {σ : CS} {j n : Nat} {left y : Int64} : fR (rSh3 (rSh2 (rSh1 σ j n left) j n y) j n) = fR σ := by
  unfold rSh3 rSh2 rSh1; split <;> simp [fR_uI, fR_uL, rTell_R]
theorem rSh_G {σ : CS} {j n : Nat} {left y : Int64} : nG (rSh3 (rSh2 (rSh1 σ j n left) j n y) j n) = nG σ := by
  unfold rSh3 rSh2 rSh1; split <;> simp [nG_uI, nG_uL, rTell_G]
theorem rSh_N {σ : CS} {j n : Nat} {left y : Int64} : nR (rSh3 (rSh2 (rSh1 σ j n left) j n y) j n) = nR σ := by
  unfold rSh3 rSh2 rSh1; split <;> simp [nR_uI, nR_uL, rTell_N]
theorem Ch_ne {σ : CS} : ∀ (A : List Nat) (b : Nat) (t : List Nat) (o : Option Nat), Ch σ o (A ++ b :: t) → ∃ z, o = some z ∧ z < nG σ ∧ (z ∈ A ∨ z = b)
  | [], b, t, o, h => ⟨b, h.1, h.2.1, Or.inr rfl⟩
  | a :: A, b, t, o, h => ⟨a, h.1, h.2.1, Or.inl List.mem_cons_self⟩
theorem nd_ne {a b g z : Nat} {t L : List Nat} (h : (a :: t ++ b :: g :: L).Nodup) (hz : z ∈ t ∨ z = b) : z ≠ g := by
  intro e
  subst e
  have h1 : (t ++ b :: z :: L).Nodup := (List.nodup_cons.mp h).2
  rw [List.nodup_append] at h1
  rcases hz with hz | hz
  · exact h1.2.2 z hz z (List.mem_cons_of_mem _ List.mem_cons_self) rfl
  · subst hz
    exact (List.nodup_cons.mp h1.2.1).1 List.mem_cons_self
theorem rSh_p {σ : CS} {j n P : Nat} {left y : Int64} (hn : n ≤ P) (h : ∃ p, p ≤ P ∧ fI σ 4 j 2 = nI p) : ∃ p, p ≤ P ∧ fI (rSh3 (rSh2 (rSh1 σ j n left) j n y) j n) 4 j 2 = nI p := by
  unfold rSh3
  split
  · exact ⟨n, hn, by rw [fI_uI, up3_at, va_up_self]⟩
  · unfold rSh2 rSh1
    rw [fI_uL, rTell_I (by decide)]
    exact h
theorem rShr_p {j P : Nat} : ∀ (q : Nat) (σ : CS) (left : Int64), q ≤ P → (∃ p, p ≤ P ∧ fI σ 4 j 2 = nI p) → ∃ p, p ≤ P ∧ fI (rShr σ j q left) 4 j 2 = nI p
  | 0, σ, left, _, h => h
  | q + 1, σ, left, hq, h => by
    rw [rShr]
    split
    · exact h
    · exact rShr_p q _ _ (by omega) (rSh_p (by omega) h)
theorem rShr_G {j : Nat} : ∀ (q : Nat) (σ : CS) (left : Int64), nG (rShr σ j q left) = nG σ
  | 0, _, _ => rfl
  | q + 1, σ, left => by
    rw [rShr]
    split
    · rfl
    · exact (rShr_G q _ _).trans rSh_G
theorem rShr_N {j : Nat} : ∀ (q : Nat) (σ : CS) (left : Int64), nR (rShr σ j q left) = nR σ
  | 0, _, _ => rfl
  | q + 1, σ, left => by
    rw [rShr]
    split
    · rfl
    · exact (rShr_N q _ _).trans rSh_N
theorem rShr_R {j : Nat} : ∀ (q : Nat) (σ : CS) (left : Int64), fR (rShr σ j q left) = fR σ
  | 0, _, _ => rfl
  | q + 1, σ, left => by
    rw [rShr]
    split
    · rfl
    · exact (rShr_R q _ _).trans rSh_R

/-! SUMS over the parts of reservations: the model's and the class's -/
theorem l_r1 (a b c : Int64) : a + b + c = a + (b + c) := by grind
theorem l_r2 (a b c d : Int64) : a + b + (c - d) = a + (c - d) + b := by grind
def cN (μ : CS) (g j : Nat) : Int64 := mNdI μ g j 0 (mP μ j)
def cU (μ : CS) (g j : Nat) : Int32 := mUsI μ g j 0 (mP μ j)
theorem mNdI_acc {μ : CS} {g j : Nat} {a : Int64} : ∀ k, mNdI μ g j a k = a + mNdI μ g j 0 k
  | 0 => by simp [mNdI]
  | k + 1 => by rw [mNdI, mNdI, mNdI_acc k]; grind
theorem mUsI_acc {μ : CS} {g j : Nat} {a : Int32} : ∀ k, mUsI μ g j a k = a + mUsI μ g j 0 k
  | 0 => by simp [mUsI]
  | k + 1 => by rw [mUsI, mUsI, mUsI_acc k]; grind
theorem mNd_s {μ : CS} {g j : Nat} : mNd μ g (j + 1) = mNd μ g j + cN μ g (j + 1) := by rw [mNd, mNdI_acc]; rfl
theorem mUs_s {μ : CS} {g j : Nat} : mUs μ g (j + 1) = mUs μ g j + cU μ g (j + 1) := by rw [mUs, mUsI_acc]; rfl
theorem mNeeds_of {ν μ : CS} {g : Nat} {x : Int64} (h2 : fI ν 9 2 g = fI μ 9 2 g) (h3 : fI ν 9 3 g = fI μ 9 3 g) : mNeeds ν g x = mNeeds μ g x := by unfold mNeeds; rw [h2, h3]
theorem mNdI_of {ν μ : CS} {g j : Nat} (h2 : fI ν 9 2 g = fI μ 9 2 g) (h3 : fI ν 9 3 g = fI μ 9 3 g) {a : Int64} : ∀ p, (∀ k, k < p → fI ν 9 16 (4 * j + k) = fI μ 9 16 (4 * j + k) ∧ fL ν 9 17 (4 * j + k) = fL μ 9 17 (4 * j + k)) → mNdI ν g j a p = mNdI μ g j a p
  | 0, _ => rfl
  | p + 1, h => by
    rw [mNdI, mNdI, mNdI_of h2 h3 p (fun k hk => h k (by omega)), (h p (by omega)).1, (h p (by omega)).2, mNeeds_of h2 h3]
theorem mUsI_of {ν μ : CS} {g j : Nat} {a : Int32} : ∀ p, (∀ k, k < p → fI ν 9 16 (4 * j + k) = fI μ 9 16 (4 * j + k)) → mUsI ν g j a p = mUsI μ g j a p
  | 0, _ => rfl
  | p + 1, h => by
    rw [mUsI, mUsI, mUsI_of p (fun k hk => h k (by omega)), h p (by omega)]
theorem cN_of {ν μ : CS} {g j : Nat} (h2 : fI ν 9 2 g = fI μ 9 2 g) (h3 : fI ν 9 3 g = fI μ 9 3 g) (h15 : fI ν 9 15 j = fI μ 9 15 j) (h : ∀ k, k < mP μ j → fI ν 9 16 (4 * j + k) = fI μ 9 16 (4 * j + k) ∧ fL ν 9 17 (4 * j + k) = fL μ 9 17 (4 * j + k)) : cN ν g j = cN μ g j := by
  have e : mP ν j = mP μ j := by unfold mP; rw [h15]
  unfold cN; rw [e]; exact mNdI_of h2 h3 _ h
theorem cU_of {ν μ : CS} {g j : Nat} (h15 : fI ν 9 15 j = fI μ 9 15 j) (h : ∀ k, k < mP μ j → fI ν 9 16 (4 * j + k) = fI μ 9 16 (4 * j + k)) : cU ν g j = cU μ g j := by
  have e : mP ν j = mP μ j := by unfold mP; rw [h15]
  unfold cU; rw [e]; exact mUsI_of _ h
theorem mNd_of {ν μ : CS} {g : Nat} : ∀ r, (∀ j, 1 ≤ j → j ≤ r → cN ν g j = cN μ g j) → mNd ν g r = mNd μ g r
  | 0, _ => rfl
  | r + 1, h => by rw [mNd_s, mNd_s, mNd_of r (fun j h1 h2 => h j h1 (by omega)), h (r + 1) (by omega) (by omega)]
theorem mUs_of {ν μ : CS} {g : Nat} : ∀ r, (∀ j, 1 ≤ j → j ≤ r → cU ν g j = cU μ g j) → mUs ν g r = mUs μ g r
  | 0, _ => rfl
  | r + 1, h => by rw [mUs_s, mUs_s, mUs_of r (fun j h1 h2 => h j h1 (by omega)), h (r + 1) (by omega) (by omega)]
theorem mNd_upd {ν μ : CS} {g i : Nat} (hi : 1 ≤ i) : ∀ r, i ≤ r → (∀ j, 1 ≤ j → j ≤ r → j ≠ i → cN ν g j = cN μ g j) → mNd ν g r = mNd μ g r + (cN ν g i - cN μ g i)
  | 0, h, _ => by omega
  | r + 1, h, hc => by
    rw [mNd_s, mNd_s]
    by_cases e : i = r + 1
    · rw [mNd_of r (fun j h1 h2 => hc j h1 (by omega) (by omega)), ← e]; grind
    · rw [mNd_upd hi r (by omega) (fun j h1 h2 h3 => hc j h1 (by omega) h3), hc (r + 1) (by omega) (by omega) (fun q => e q.symm)]; grind
theorem mUs_upd {ν μ : CS} {g i : Nat} (hi : 1 ≤ i) : ∀ r, i ≤ r → (∀ j, 1 ≤ j → j ≤ r → j ≠ i → cU ν g j = cU μ g j) → mUs ν g r = mUs μ g r + (cU ν g i - cU μ g i)
  | 0, h, _ => by omega
  | r + 1, h, hc => by
    rw [mUs_s, mUs_s]
    by_cases e : i = r + 1
    · rw [mUs_of r (fun j h1 h2 => hc j h1 (by omega) (by omega)), ← e]; grind
    · rw [mUs_upd hi r (by omega) (fun j h1 h2 h3 => hc j h1 (by omega) h3), hc (r + 1) (by omega) (by omega) (fun q => e q.symm)]; grind
theorem mLive_of {ν μ : CS} : ∀ r, (∀ j, 1 ≤ j → j ≤ r → fI ν 9 14 j = fI μ 9 14 j) → mLive ν r = mLive μ r
  | 0, _ => rfl
  | r + 1, h => by rw [mLive, mLive, mLive_of r (fun j h1 h2 => h j h1 (by omega)), h (r + 1) (by omega) (by omega)]
theorem mLive_upd {ν μ : CS} {i : Nat} (hi : 1 ≤ i) : ∀ r, i ≤ r → (∀ j, 1 ≤ j → j ≤ r → j ≠ i → fI ν 9 14 j = fI μ 9 14 j) → mLive ν r = mLive μ r + ((if fI ν 9 14 i = 0 then 1 else 0) - (if fI μ 9 14 i = 0 then 1 else 0))
  | 0, h, _ => by omega
  | r + 1, h, hc => by
    rw [mLive, mLive]
    by_cases e : i = r + 1
    · rw [mLive_of r (fun j h1 h2 => hc j h1 (by omega) (by omega)), ← e]; grind
    · rw [mLive_upd hi r (by omega) (fun j h1 h2 h3 => hc j h1 (by omega) h3), hc (r + 1) (by omega) (by omega) (fun q => e q.symm)]; grind
/-- the class's -/
def dN (σ : CS) (g j : Nat) : Nat → Int64
  | 0 => 0
  | k + 1 => dN σ g j k + (if fR σ 5 j k = some g then gNeed σ g (fL σ 6 j k) else 0)
def dU (σ : CS) (g j : Nat) : Nat → Int32
  | 0 => 0
  | k + 1 => dU σ g j k + (if fR σ 5 j k = some g then 1 else 0)
theorem gNeed_of {σ τ : CS} {g : Nat} {x : Int64} (h : fI τ 2 = fI σ 2) : gNeed τ g x = gNeed σ g x := by unfold gNeed; rw [h]
theorem chg_6 {σ : CS} {i g : Nat} {b a : Int64} : fL (gChg σ i b a) 1 g 6 = fL σ 1 g 6 + (if g = i then gNeed σ g a - gNeed σ g b else 0) := by
  unfold gChg gCh3 gCh2 gCh1
  by_cases e : g = i
  · subst e
    split <;> split <;> simp [fL_uI, fL_uL, up3_val]
  · split <;> split <;> simp [fL_uI, fL_uL, up3_val, e]
theorem chg_L {σ : CS} {i g f : Nat} {b a : Int64} (hf : f ≠ 6) : fL (gChg σ i b a) 1 g f = fL σ 1 g f := by
  unfold gChg gCh3 gCh2 gCh1
  split <;> split <;> simp [fL_uI, fL_uL, up3_val, hf]
theorem chg_8 {σ : CS} {i g : Nat} {b a : Int64} : fI (gChg σ i b a) 1 g 8 = fI σ 1 g 8 + (if g = i then (if b = 0 then 1 else 0) - (if a = 0 then 1 else 0) else 0) := by
  unfold gChg gCh3 gCh2 gCh1
  by_cases e : g = i
  · subst e
    split <;> split <;> simp [fI_uI, fI_uL, up3_val] <;> grind
  · split <;> split <;> simp [fI_uI, fI_uL, up3_val, e]
theorem chg_I {σ : CS} {i g f : Nat} {b a : Int64} (hf : f ≠ 8) : fI (gChg σ i b a) 1 g f = fI σ 1 g f := by
  unfold gChg gCh3 gCh2 gCh1
  split <;> split <;> simp [fI_uI, fI_uL, up3_val, hf]
theorem tell_6 {σ : CS} {j k g : Nat} {b a : Int64} : fL (rTell σ j k b a) 1 g 6 = fL σ 1 g 6 + (if fR σ 5 j k = some g then gNeed σ g a - gNeed σ g b else 0) := by
  unfold rTell
  cases h : fR σ 5 j k with
  | none => simp
  | some i =>
    simp only []
    rw [chg_6]
    by_cases e : g = i
    · subst e; simp
    · have e2 : ¬ some i = some g := fun q => e (Option.some.inj q).symm
      rw [if_neg e, if_neg e2]
theorem tell_L {σ : CS} {j k g f : Nat} {b a : Int64} (hf : f ≠ 6) : fL (rTell σ j k b a) 1 g f = fL σ 1 g f := by
  unfold rTell
  split
  · exact chg_L hf
  · rfl
theorem tell_8 {σ : CS} {j k g : Nat} {b a : Int64} : fI (rTell σ j k b a) 1 g 8 = fI σ 1 g 8 + (if fR σ 5 j k = some g then (if b = 0 then 1 else 0) - (if a = 0 then 1 else 0) else 0) := by
  unfold rTell
  cases h : fR σ 5 j k with
  | none => simp
  | some i =>
    simp only []
    rw [chg_8]
    by_cases e : g = i
    · subst e; simp
    · have e2 : ¬ some i = some g := fun q => e (Option.some.inj q).symm
      rw [if_neg e, if_neg e2]
theorem tell_I {σ : CS} {j k g f : Nat} {b a : Int64} (hf : f ≠ 8) : fI (rTell σ j k b a) 1 g f = fI σ 1 g f := by
  unfold rTell
  split
  · exact chg_I hf
  · rfl
theorem drop_6 {σ : CS} {j g : Nat} (h0 : gNeed σ g 0 = 0) : ∀ n, fL (rDrop σ j n) 1 g 6 = fL σ 1 g 6 - dN σ g j n
  | 0 => by simp [rDrop, dN]
  | n + 1 => by
    rw [rDrop, tell_6, drop_6 h0 n, rDrop_R, rDrop_L (by decide), gNeed_of (rDrop_I (by decide) n), gNeed_of (rDrop_I (by decide) n), h0, dN]
    split <;> grind
theorem drop_8 {σ : CS} {j g : Nat} : ∀ n, (∀ k, k < n → ¬ fL σ 6 j k = 0) → fI (rDrop σ j n) 1 g 8 = fI σ 1 g 8 - dU σ g j n
  | 0, _ => by simp [rDrop, dU]
  | n + 1, h => by
    rw [rDrop, tell_8, drop_8 n (fun k hk => h k (by omega)), rDrop_R, rDrop_L (by decide), dU, if_neg (h n (by omega))]
    split <;> grind
theorem drop_L {σ : CS} {j g f : Nat} (hf : f ≠ 6) : ∀ n, fL (rDrop σ j n) 1 g f = fL σ 1 g f
  | 0 => rfl
  | n + 1 => by rw [rDrop, tell_L hf, drop_L hf n]
theorem drop_I {σ : CS} {j g f : Nat} (hf : f ≠ 8) : ∀ n, fI (rDrop σ j n) 1 g f = fI σ 1 g f
  | 0 => rfl
  | n + 1 => by rw [rDrop, tell_I hf, drop_I hf n]
theorem bind_6 {σ : CS} {j g : Nat} (h0 : gNeed σ g 0 = 0) : ∀ n, fL (rBind σ j n) 1 g 6 = fL σ 1 g 6 + dN σ g j n
  | 0 => by simp [rBind, dN]
  | n + 1 => by
    rw [rBind, tell_6, bind_6 h0 n, rBind_R, rBind_L (by decide), gNeed_of (rBind_I (by decide) n), gNeed_of (rBind_I (by decide) n), h0, dN]
    split <;> grind
theorem bind_8 {σ : CS} {j g : Nat} : ∀ n, (∀ k, k < n → ¬ fL σ 6 j k = 0) → fI (rBind σ j n) 1 g 8 = fI σ 1 g 8 + dU σ g j n
  | 0, _ => by simp [rBind, dU]
  | n + 1, h => by
    rw [rBind, tell_8, bind_8 n (fun k hk => h k (by omega)), rBind_R, rBind_L (by decide), dU, if_neg (h n (by omega))]
    split <;> grind
theorem bind_L {σ : CS} {j g f : Nat} (hf : f ≠ 6) : ∀ n, fL (rBind σ j n) 1 g f = fL σ 1 g f
  | 0 => rfl
  | n + 1 => by rw [rBind, tell_L hf, bind_L hf n]
theorem bind_I {σ : CS} {j g f : Nat} (hf : f ≠ 8) : ∀ n, fI (rBind σ j n) 1 g f = fI σ 1 g f
  | 0 => rfl
  | n + 1 => by rw [rBind, tell_I hf, bind_I hf n]
/-- the tie of both sums, part by part -/
def Tie (σ μ : CS) (n j p : Nat) : Prop := ∀ k, k < p → ∃ g c, fR σ 5 j k = some g ∧ g < n ∧ fI μ 9 16 (4 * (j + 1) + k) = nI (g + 1) ∧ fL σ 6 j k = lN c ∧ fL μ 9 17 (4 * (j + 1) + k) = lN c ∧ 1 ≤ c ∧ c ≤ 1000000000
theorem dN_tie {σ μ : CS} {n j g : Nat} (hn : n ≤ 20) (hg : g < n) (hne : ∀ c : Nat, c ≤ 1000000000 → gNeed σ g (lN c) = mNeeds μ (g + 1) (lN c)) : ∀ p, Tie σ μ n j p → dN σ g j p = mNdI μ (g + 1) (j + 1) 0 p
  | 0, _ => rfl
  | p + 1, h => by
    rw [dN, mNdI, dN_tie hn hg hne p (fun k hk => h k (by omega))]
    obtain ⟨g', c, h1, h2, h3, h4, h5, h6, h7⟩ := h p (by omega)
    rw [h1, h3, h4, h5]
    by_cases e : g' = g
    · subst e
      rw [if_pos rfl, if_pos rfl, hne c h7]
    · rw [if_neg (fun q => e (Option.some.inj q)), if_neg (fun q => e (by have := (nI_eq (a := g' + 1) (b := g + 1) (by omega) (by omega)).mp q; omega))]
theorem dU_tie {σ μ : CS} {n j g : Nat} (hn : n ≤ 20) (hg : g < n) : ∀ p, Tie σ μ n j p → dU σ g j p = mUsI μ (g + 1) (j + 1) 0 p
  | 0, _ => rfl
  | p + 1, h => by
    rw [dU, mUsI, dU_tie hn hg p (fun k hk => h k (by omega))]
    obtain ⟨g', c, h1, h2, h3, h4, h5, h6, h7⟩ := h p (by omega)
    rw [h1, h3]
    by_cases e : g' = g
    · subst e
      rw [if_pos rfl, if_pos rfl]
    · rw [if_neg (fun q => e (Option.some.inj q)), if_neg (fun q => e (by have := (nI_eq (a := g' + 1) (b := g + 1) (by omega) (by omega)).mp q; omega))]
theorem ceil_div {x d : Nat} (h : 0 < d) : (x + d - 1) / d = x / d + (if x % d = 0 then 0 else 1) := by
  have e : x = d * (x / d) + x % d := (Nat.div_add_mod x d).symm
  have hm := Nat.mod_lt x h
  generalize x / d = q at e ⊢
  generalize x % d = m at e hm ⊢
  subst e
  rw [show d * q + m + d - 1 = (m + d - 1) + d * q by omega, Nat.add_mul_div_left _ _ h, Nat.add_comm]
  congr 1
  split
  · subst_vars
    exact Nat.div_eq_of_lt (by omega)
  · rw [show m + d - 1 = (m - 1) + d by omega, Nat.add_div_right _ h, Nat.div_eq_of_lt (by omega)]
theorem need_eq {σ μ : CS} {g u d c : Nat} (h1 : fI σ 2 g 0 = nI u) (h2 : fI σ 2 g 1 = nI d) (h3 : fI μ 9 2 (g + 1) = nI u) (h4 : fI μ 9 3 (g + 1) = nI d) (hu : u ≤ d) (hd : 1 ≤ d) (hd2 : d ≤ 100) (hc : c ≤ 1000000000) : gNeed σ g (lN c) = mNeeds μ (g + 1) (lN c) ∧ ∃ m, m ≤ c ∧ mNeeds μ (g + 1) (lN c) = lN m := by
  have hcu : c * u ≤ 1000000000 * 100 := Nat.mul_le_mul hc (by omega)
  have hcd : c * u ≤ c * d := Nat.mul_le_mul_left c hu
  have e1 : gNeed σ g (lN c) = lN ((c * u + d - 1) / d) := by
    unfold gNeed sNeed
    rw [h1, h2, if_neg (nI_ne0 (by omega) (by omega)), nI_l (by omega), nI_l (by omega), lN_mul, lN_add, show (1 : Int64) = lN 1 from rfl, lN_sub (by omega), pk_lDiv (by omega) (by omega) (by omega)]
  have e2 : mNeeds μ (g + 1) (lN c) = lN (c * u / d + (if c * u % d = 0 then 0 else 1)) := by
    unfold mNeeds
    rw [h3, h4, nI_l (by omega), nI_l (by omega), lN_mul, pk_lRem (by omega) (by omega) (by omega), pk_lDiv (by omega) (by omega) (by omega), ← lN_add]
    congr 1
    have hm := Nat.mod_lt (c * u) (show 0 < d by omega)
    by_cases z : c * u % d = 0
    · rw [if_pos z, z]; rfl
    · rw [if_neg z, if_neg]
      · rfl
      · intro q
        have := (pk_lLE (a := c * u % d) (b := 0) (by omega) (by omega)).mp q
        omega
  refine ⟨by rw [e1, e2, ceil_div (by omega)], _, ?_, e2⟩
  rw [← ceil_div (by omega)]
  have : (c * u + d - 1) / d < c + 1 := by
    rw [Nat.div_lt_iff_lt_mul (by omega), Nat.add_mul]
    omega
  omega

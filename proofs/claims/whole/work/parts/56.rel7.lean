/-! reduce, claim -/
theorem mStep_10 {μ : CS} {j k : Nat} {x : Int64} : fL (mStep μ j k x) 10 = fL μ 10 := rfl
theorem mRed_step {τ : CS} {j k : Nat} {left : Int64} (c : ¬ left ≤ 0) : mRed (j + 1) (k + 1) τ left = (if fL τ 9 17 (4 * (j + 1) + k) - mMin (fL τ 9 17 (4 * (j + 1) + k)) left = 0 then mRed (j + 1) k (mStep τ j k (mMin (fL τ 9 17 (4 * (j + 1) + k)) left)) (left - mMin (fL τ 9 17 (4 * (j + 1) + k)) left) else some (mStep τ j k (mMin (fL τ 9 17 (4 * (j + 1) + k)) left))) := by
  rw [mRed, if_neg c]
  unfold mStep
  split
  · rw [nI_pred]
  · rw [Int32.sub_zero]
theorem shr_0 {σ : CS} {j : Nat} : ∀ k, rShr σ j k (lN 0) = σ
  | 0 => rfl
  | k + 1 => by rw [rShr, if_pos (by decide)]
theorem shr_sim {n r j : Nat} {O : List Nat} (hj : j < r) : ∀ (q : Nat) (σ μ : CS) (b s : Nat), Rel σ μ n r O → fI σ 4 j 2 = nI q → q ≤ 4 → sumL (fL σ 6 j) q = lN s → s ≤ 4000000000 → b ≤ s → ∃ u, mRed (j + 1) q μ (lN b) = some u ∧ Rel (rShr σ j q (lN b)) u n r O ∧ fL u 10 = fL μ 10 ∧ fI u 8 = fI μ 8
  | 0, σ, μ, b, s, h, hp, hq, hs, hs4, hb => by
    have : s = 0 := ((pk_lEQ (a := 0) (b := s) (by omega) (by omega)).mp hs).symm
    have : b = 0 := by omega
    subst this
    exact ⟨μ, by rw [mRed, if_pos (by decide)], h, rfl, rfl⟩
  | k + 1, σ, μ, b, s, h, hp, hq, hs, hs4, hb => by
    by_cases b0 : b = 0
    · subst b0
      exact ⟨μ, by rw [mRed, if_pos (by decide)], by rw [rShr, if_pos (by decide)]; exact h, rfl, rfl⟩
    · have hb1 : ¬ lN b ≤ 0 := fun z => by have := (pk_lLE (a := b) (b := 0) (by omega) (by omega)).mp z; omega
      obtain ⟨⟨p, hp4, p1, p2, ht⟩, r1, r2, r3, r4⟩ := h.2.2.2.2.1 j hj
      have hpk : p = k + 1 := (nI_eq (by omega) (by omega)).mp (p1.symm.trans hp)
      subst hpk
      obtain ⟨g0, c, t1, t2, t3, t4, t5, t6, t7⟩ := ht k (by omega)
      obtain ⟨m1, m2⟩ := min_lN (b := b) (c := c) (by omega) (by omega)
      have hstep := Rel_shr (b := b) h hj hp hq t4 (by omega) (by omega)
      have hmin : min b c ≤ c := Nat.min_le_right _ _
      have hminb : min b c ≤ b := Nat.min_le_left _ _
      have e1 : fL μ 9 17 (4 * (j + 1) + k) - mMin (fL μ 9 17 (4 * (j + 1) + k)) (lN b) = lN (c - min b c) := by rw [t5, m2, lN_sub hmin]
      have e2 : lN b - mMin (fL μ 9 17 (4 * (j + 1) + k)) (lN b) = lN (b - min b c) := by rw [t5, m2, lN_sub hminb]
      have e3 : lN b - lMin (lN b) (fL σ 6 j k) = lN (b - min b c) := by rw [t4, m1, lN_sub hminb]
      rw [rShr, if_neg hb1, mRed_step hb1, e1, e2, e3]
      by_cases z : c - min b c = 0
      · have hcb : c ≤ b := by omega
        rw [if_pos (by rw [z]; rfl)]
        obtain ⟨s', hs', hss⟩ := (sum_tie k (fun i hi => ht i (by omega))).2
        have hs2 : s = s' + c := by
          have : lN s = lN (s' + c) := by rw [← hs, sumL, hss, t4, lN_add]
          exact (pk_lEQ (by omega) (by omega)).mp this
        have hsum : sumL (fL (rSh3 (rSh2 (rSh1 σ j k (lN b)) j k (lMin (lN b) (fL σ 6 j k))) j k) 6 j) k = lN s' := by
          rw [← hss]
          have key : ∀ i, i < k → fL (rSh3 (rSh2 (rSh1 σ j k (lN b)) j k (lMin (lN b) (fL σ 6 j k))) j k) 6 j i = fL σ 6 j i := fun i hi => by
            have : fL (rSh2 (rSh1 σ j k (lN b)) j k (lMin (lN b) (fL σ 6 j k))) 6 j i = fL σ 6 j i := by
              unfold rSh2 rSh1
              rw [fL_uL, up3_at, up_ne (by omega), rTell_L (by decide)]
            unfold rSh3
            split
            · exact this
            · exact this
          have : ∀ m, m ≤ k → sumL (fL (rSh3 (rSh2 (rSh1 σ j k (lN b)) j k (lMin (lN b) (fL σ 6 j k))) j k) 6 j) m = sumL (fL σ 6 j) m := fun m => by
            induction m with
            | zero => intro _; rfl
            | succ m ih => intro hm; rw [sumL, sumL, ih (by omega), key m (by omega)]
          exact this k (Nat.le_refl _)
        have hp2 : fI (rSh3 (rSh2 (rSh1 σ j k (lN b)) j k (lMin (lN b) (fL σ 6 j k))) j k) 4 j 2 = nI k := by
          unfold rSh3
          rw [if_pos]
          · rw [fI_uI, up3_at, va_up_self]
          · unfold rSh2 rSh1
            rw [fL_uL, up3_at, va_up_self, rTell_L (by decide), t4, m1, lN_sub hmin, z]
            rfl
        obtain ⟨u, hu1, hu2, hu3, hu4⟩ := shr_sim hj k _ _ (b - min b c) s' hstep hp2 (by omega) hsum (by omega) (by omega)
        exact ⟨u, hu1, hu2, hu3, hu4⟩
      · rw [if_neg (show ¬ lN (c - min b c) = 0 from fun w => z ((pk_lEQ (a := c - min b c) (b := 0) (by omega) (by omega)).mp w))]
        have hb0 : b - min b c = 0 := by omega
        rw [hb0, shr_0]
        exact ⟨_, rfl, hstep, rfl, rfl⟩
theorem red_ok {σ μ : CS} {n r : Nat} {O : List Nat} {x : Int32} {c : Int64} (h : Rel σ μ n r O) : ∀ j, gIx x r = some j → fI μ 9 14 (j + 1) ≤ 0 → c < mCov μ (j + 1) (mP μ (j + 1)) → 1 ≤ c → ∃ u, mRed (j + 1) (mP μ (j + 1)) (uI μ 8 0 0 0) c = some u ∧ Rel (rShr σ j (pN σ j) c) u n r O ∧ fL u 10 = fL μ 10 ∧ fI u 8 0 0 = 0 := fun j hi _ hc h1 => by
  have hjr := gIx_lt hi (by have := h.1.2.1; omega)
  obtain ⟨⟨p, hp4, p1, p2, ht⟩, r1, r2, r3, r4⟩ := h.2.2.2.2.1 j hjr
  have hpn : pN σ j = p := pN_of p1 hp4
  have hmp : mP μ (j + 1) = p := mP_of p2 hp4
  obtain ⟨e1, s, hs, e2⟩ := sum_tie p ht
  rw [hmp] at hc ⊢
  rw [hpn]
  rw [← e1, e2] at hc
  obtain ⟨b, hb, rfl⟩ := pk_lOf (x := c) (fun z => by
    have z1 : c ≤ 0 := Int64.le_of_lt z
    have z2 : (1 : Int64) ≤ 0 := Int64.le_trans h1 z1
    exact absurd z2 (by decide))
  have hbs := (pk_lLT hb (by omega)).mp hc
  obtain ⟨u, hu1, hu2, hu3, hu4⟩ := shr_sim hjr p σ (uI μ 8 0 0 0) b s (Rel_th h) p1 hp4 e2 (by omega) (by omega)
  exact ⟨u, hu1, hu2, hu3, by rw [hu4]; rfl⟩
theorem op_reduce {σ μ : CS} {n r : Nat} {O : List Nat} {x : Int32} {c : Int64} (h : Rel σ μ n r O) : fI (cRedM μ r x c).2 8 0 0 = (cReduce σ r x c).1 ∧ ((cReduce σ r x c).1 = 0 → (cReduce σ r x c).2.1 = (cRedM μ r x c).1) ∧ fL (cRedM μ r x c).2 10 = fL μ 10 ∧ Rel (cReduce σ r x c).2.2 (cRedM μ r x c).2 n r O := by
  unfold cReduce cRedM
  cases hi : gIx x r with
  | none => exact ⟨rfl, fun q => absurd (show (1 : Int32) = 0 from q) (by decide), rfl, Rel_th h⟩
  | some j =>
    have hjr := gIx_lt hi (by have := h.1.2.1; omega)
    obtain ⟨⟨p, hp4, p1, p2, ht⟩, r1, r2, r3, r4⟩ := h.2.2.2.2.1 j hjr
    have hpn : pN σ j = p := pN_of p1 hp4
    have hmp : mP μ (j + 1) = p := mP_of p2 hp4
    have hcov : rCov σ j = mCov μ (j + 1) (mP μ (j + 1)) := by unfold rCov; rw [hpn, hmp]; exact (sum_tie p ht).1
    have hq := how_iff r3 r4
    simp only []
    by_cases h1 : 1 ≤ c
    · rw [if_pos h1, if_pos h1]
      by_cases h2 : fI σ 4 j 5 = 0
      · rw [if_pos h2, if_pos (hq.mp h2), hcov]
        by_cases h3 : c < mCov μ (j + 1) (mP μ (j + 1))
        · rw [if_pos h3, if_pos h3]
          obtain ⟨u, u1, u2, u3, u4⟩ := red_ok h j hi (hq.mp h2) h3 h1
          rw [u1]
          refine ⟨u4, fun _ => ?_, u3, u2⟩
          show rCov (rShr σ j (pN σ j) c) j = mCov u (j + 1) (mP u (j + 1))
          obtain ⟨⟨p', hp4', p1', p2', ht'⟩, -⟩ := u2.2.2.2.2.1 j hjr
          unfold rCov
          rw [pN_of p1' hp4', mP_of p2' hp4']
          exact (sum_tie p' ht').1
        · rw [if_neg h3, if_neg h3]; exact ⟨rfl, fun _ => rfl, rfl, Rel_th h⟩
      · rw [if_neg h2, if_neg (fun z => h2 (hq.mpr z))]; exact ⟨rfl, fun _ => rfl, rfl, Rel_th h⟩
    · rw [if_neg h1, if_neg h1]; exact ⟨rfl, fun q => absurd (show (1 : Int32) = 0 from q) (by decide), rfl, Rel_th h⟩
theorem rTk_day {σ : CS} {j : Nat} {day : Int32} {c : Int64} (k : Nat) : fI (rTk σ j day c k).1 0 = fI σ 0 := rTk_I (by decide) (by decide) k
theorem take_sim {σ μ : CS} {n r j p b : Nat} {O : List Nat} (h : Rel σ μ n r O) (hj : j < r) (hp : fI σ 4 j 2 = nI p) (hp4 : p ≤ 4) (hb : b < 2 ^ 62) : ∀ k, k ≤ p → Rel (rTk σ j (fI σ 0 0 9) (lN b) k).1 (mTk μ (j + 1) (lN b) k).1 n r O ∧ (∃ b', b' ≤ b ∧ (rTk σ j (fI σ 0 0 9) (lN b) k).2.1 = lN b' ∧ (mTk μ (j + 1) (lN b) k).2.1 = lN b') ∧ (rTk σ j (fI σ 0 0 9) (lN b) k).2.2 = (mTk μ (j + 1) (lN b) k).2.2 ∧ fL (mTk μ (j + 1) (lN b) k).1 10 = fL μ 10
  | 0, _ => ⟨h, ⟨b, Nat.le_refl _, rfl, rfl⟩, rfl, rfl⟩
  | k + 1, hk => by
    obtain ⟨i1, ⟨b', hb', i2, i3⟩, i4, i5⟩ := take_sim h hj hp hp4 hb k (by omega)
    obtain ⟨⟨p', hp4', p1, p2, ht⟩, -⟩ := i1.2.2.2.2.1 j hj
    have hpp : p' = p := (nI_eq (by omega) (by omega)).mp (p1.symm.trans (by rw [rTk_I (by decide) (by decide)]; exact hp))
    subst hpp
    obtain ⟨g, c, t1, t2, t3, t4, t5, t6, t7⟩ := ht k (by omega)
    obtain ⟨m1, m2⟩ := min_lN (b := b') (c := c) (by omega) (by omega)
    obtain ⟨g1, g2, g3⟩ := i1.2.2.2.1 g t2
    obtain ⟨⟨a, a5, a6, a7⟩, -⟩ := g2
    have hG : mTkG (mTk μ (j + 1) (lN b) k).1 (j + 1) k = g + 1 := by unfold mTkG; rw [t3]; exact nI_clamp (by have := h.1.1; omega)
    have x1 : lMin (rTk σ j (fI σ 0 0 9) (lN b) k).2.1 (fL (rTk σ j (fI σ 0 0 9) (lN b) k).1 6 j k) = lN (min b' c) := by rw [i2, t4, m1]
    have x2 : mMin (fL (mTk μ (j + 1) (lN b) k).1 9 17 (4 * (j + 1) + k)) (mTk μ (j + 1) (lN b) k).2.1 = lN (min b' c) := by rw [i3, t5, m2]
    have hmb : min b' c ≤ b' := Nat.min_le_left _ _
    have x3 : gLost (rTk σ j (fI σ 0 0 9) (lN b) k).1 g (lN (min b' c)) = lN (min (min b' c) a) := by
      unfold gLost
      rw [a6]
      by_cases q : min b' c < a
      · rw [if_pos ((pk_lLT (by omega) (by omega)).mpr q), Nat.min_eq_left (a := min b' c) (b := a) (by omega)]
      · rw [if_neg (fun z => q ((pk_lLT (by omega) (by omega)).mp z)), Nat.min_eq_right (a := min b' c) (b := a) (by omega)]
    have x4 : mTkX (mTk μ (j + 1) (lN b) k).1 (j + 1) k (mTk μ (j + 1) (lN b) k).2.1 = lN (min (min b' c) a) := by
      unfold mTkX
      rw [hG, a7, x2]
      by_cases q : a ≤ min b' c
      · rw [if_pos ((pk_lLE (by omega) (by omega)).mpr q), Nat.min_eq_right q]
      · rw [if_neg (fun z => q ((pk_lLE (by omega) (by omega)).mp z)), Nat.min_eq_left (a := min b' c) (b := a) (by omega)]
    rw [rTk_s t1, mTk, x1, x2, x3, x4, hG]
    have hday : fI (rTk σ j (fI σ 0 0 9) (lN b) k).1 0 0 9 = fI σ 0 0 9 := by rw [rTk_day]
    have hma : min (min b' c) a ≤ a := Nat.min_le_right _ _
    have hleft : ∃ b'', b'' ≤ b ∧ (rTk σ j (fI σ 0 0 9) (lN b) k).2.1 - lN (min b' c) = lN b'' ∧ (mTk μ (j + 1) (lN b) k).2.1 - lN (min b' c) = lN b'' := ⟨b' - min b' c, by omega, by rw [i2, lN_sub hmb], by rw [i3, lN_sub hmb]⟩
    by_cases q : lN (min (min b' c) a) ≤ 0
    · have hz : min (min b' c) a = 0 := by have := (pk_lLE (a := min (min b' c) a) (b := 0) (by omega) (by omega)).mp q; omega
      rw [if_pos q]
      refine ⟨?_, hleft, ?_, i5⟩
      · show Rel (gLose (rTk σ j (fI σ 0 0 9) (lN b) k).1 g (lN (min b' c)) (fI σ 0 0 9)) (mTk μ (j + 1) (lN b) k).1 n r O
        unfold gLose
        rw [x3, if_pos q]
        exact i1
      · show (rTk σ j (fI σ 0 0 9) (lN b) k).2.2 + lN (min (min b' c) a) = (mTk μ (j + 1) (lN b) k).2.2
        rw [hz, i4]
        exact Int64.add_zero _
    · rw [if_neg q]
      refine ⟨?_, hleft, ?_, i5⟩
      · show Rel (gLose (rTk σ j (fI σ 0 0 9) (lN b) k).1 g (lN (min b' c)) (fI σ 0 0 9)) (mLose (mTk μ (j + 1) (lN b) k).1 (g + 1) (lN (min (min b' c) a))) n r O
        unfold gLose
        rw [x3, if_neg q]
        have := Rel_lose i1 t2 a6 a5 hma
        rw [hday] at this
        exact this
      · show (rTk σ j (fI σ 0 0 9) (lN b) k).2.2 + lN (min (min b' c) a) = (mTk μ (j + 1) (lN b) k).2.2 + lN (min (min b' c) a)
        rw [i4]
theorem mTk_th {μ : CS} {j : Nat} {c : Int64} (k : Nat) : fI (mTk μ j c k).1 8 0 0 = fI μ 8 0 0 := by rw [mTk_8]
theorem op_claim {σ μ : CS} {n r : Nat} {O : List Nat} {x : Int32} {c : Int64} (h : Rel σ μ n r O) : fI (cClmM μ r x c).2 8 0 0 = (cClaim σ r x c).1 ∧ ((cClaim σ r x c).1 = 0 → (cClaim σ r x c).2.1 = (cClmM μ r x c).1) ∧ fL (cClmM μ r x c).2 10 = fL μ 10 ∧ Rel (cClaim σ r x c).2.2 (cClmM μ r x c).2 n r O := by
  unfold cClaim cClmM
  cases hi : gIx x r with
  | none => exact ⟨rfl, fun q => absurd (show (1 : Int32) = 0 from q) (by decide), rfl, Rel_th h⟩
  | some j =>
    have hjr := gIx_lt hi (by have := h.1.2.1; omega)
    obtain ⟨⟨p, hp4, p1, p2, ht⟩, r1, r2, r3, r4⟩ := h.2.2.2.2.1 j hjr
    have hpn : pN σ j = p := pN_of p1 hp4
    have hmp : mP μ (j + 1) = p := mP_of p2 hp4
    have hcov : rCov σ j = mCov μ (j + 1) (mP μ (j + 1)) := by unfold rCov; rw [hpn, hmp]; exact (sum_tie p ht).1
    have hq := how_iff r3 r4
    simp only []
    by_cases h1 : 1 ≤ c
    · rw [if_pos h1, if_pos h1]
      by_cases h2 : fI σ 4 j 5 = 0
      · rw [if_pos h2, if_pos (hq.mp h2), hcov]
        by_cases h3 : c ≤ mCov μ (j + 1) (mP μ (j + 1))
        · rw [if_pos h3, if_pos h3, hpn, hmp]
          obtain ⟨e1, s, hs, e2⟩ := sum_tie p ht
          rw [hmp, ← e1, e2] at h3
          obtain ⟨b, hb, rfl⟩ := pk_lOf (x := c) (fun z => by
            have z1 : c ≤ 0 := Int64.le_of_lt z
            have z2 : (1 : Int64) ≤ 0 := Int64.le_trans h1 z1
            exact absurd z2 (by decide))
          have hbs := (pk_lLE hb (by omega)).mp h3
          obtain ⟨i1, -, i4, i5⟩ := take_sim (b := b) (Rel_th (y := 0) h) hjr p1 hp4 (by omega) p (Nat.le_refl _)
          refine ⟨?_, fun _ => i4, i5, ?_⟩
          · show fI (mTk (uI μ 8 0 0 0) (j + 1) (lN b) p).1 8 0 0 = 0
            rw [mTk_8]; rfl
          · exact Rel_end i1 hjr (by rw [rTk_I (by decide) (by decide)]; exact h2) (by decide) (by decide)
        · rw [if_neg h3, if_neg h3]; exact ⟨rfl, fun _ => rfl, rfl, Rel_th h⟩
      · rw [if_neg h2, if_neg (fun z => h2 (hq.mpr z))]; exact ⟨rfl, fun _ => rfl, rfl, Rel_th h⟩
    · rw [if_neg h1, if_neg h1]; exact ⟨rfl, fun q => absurd (show (1 : Int32) = 0 from q) (by decide), rfl, Rel_th h⟩

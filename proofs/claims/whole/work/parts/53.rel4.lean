/-! what changes one reservation: end, one step of a reduction -/
theorem Rel_res {σ σ' μ μ' : CS} {n r j : Nat} {O : List Nat} (h : Rel σ μ n r O) (hj : j < r)
    (c0 : ∀ f, f ≠ 8 → fI σ' 0 0 f = fI σ 0 0 f) (ck : ∀ k, k ≠ 0 → k ≠ 1 → k ≠ 4 → fI σ' k = fI σ k) (c1 : ∀ g f, f ≠ 8 → fI σ' 1 g f = fI σ 1 g f) (c4 : ∀ i, i ≠ j → fI σ' 4 i = fI σ 4 i)
    (lk : ∀ k, k ≠ 1 → k ≠ 6 → fL σ' k = fL σ k) (l1 : ∀ g f, f ≠ 6 → fL σ' 1 g f = fL σ 1 g f) (l6 : ∀ i, i ≠ j → fL σ' 6 i = fL σ 6 i) (R0 : fR σ' = fR σ) (G0 : nG σ' = nG σ) (N0 : nR σ' = nR σ)
    (m8 : fI μ' 8 = fI μ 8) (mk : ∀ f, f ≠ 14 → f ≠ 15 → fI μ' 9 f = fI μ 9 f) (m14 : ∀ q, q ≠ j + 1 → fI μ' 9 14 q = fI μ 9 14 q) (m15 : ∀ q, q ≠ j + 1 → fI μ' 9 15 q = fI μ 9 15 q) (ml : ∀ f, f ≠ 17 → fL μ' 9 f = fL μ 9 f) (m17 : ∀ q, (q < 4 * (j + 1) ∨ 4 * (j + 1) + 4 ≤ q) → fL μ' 9 17 q = fL μ 9 17 q)
    (oR : RR σ' μ' n j) (oN : ∀ g, g < n → fL σ' 1 g 6 = fL σ 1 g 6 + (cN μ' (g + 1) (j + 1) - cN μ (g + 1) (j + 1))) (oU : ∀ g, g < n → fI σ' 1 g 8 = fI σ 1 g 8 + (cU μ' (g + 1) (j + 1) - cU μ (g + 1) (j + 1)))
    (oL : fI σ' 0 0 8 = fI σ 0 0 8 + ((if fI μ' 9 14 (j + 1) = 0 then 1 else 0) - (if fI μ 9 14 (j + 1) = 0 then 1 else 0))) : Rel σ' μ' n r O := by
  have hw := WFm_of h
  obtain ⟨hB, hR, hO, hG, hRR, hD, hL, hM⟩ := h
  have hp : ∀ i, i ≤ r → mP μ i ≤ 4 := fun i hi => by obtain ⟨p, hp, e⟩ := hw.2.2.2.2.2.1 i hi; rw [mP_of e hp]; exact hp
  refine ⟨?_, ?_, ?_, fun k hk => ?_, fun i hi => ?_, ?_, ?_, ?_⟩
  · unfold BB at *
    rw [G0, N0, R0, c0 6 (by decide), c0 7 (by decide), c0 9 (by decide), ck 7 (by decide) (by decide) (by decide), m8, mk 18 (by decide) (by decide), mk 19 (by decide) (by decide)]
    exact hB
  · unfold RG at *; rw [R0, G0, N0]; exact hR
  · exact OO_of hO (by rw [R0]) (by rw [R0]) G0 (fun g => c1 g 1 (by decide)) (mk 11 (by decide) (by decide))
  · obtain ⟨g1, g2, g3⟩ := hG k hk
    refine ⟨GS_of g1 (c1 _ _ (by decide)) (c1 _ _ (by decide)) (c1 _ _ (by decide)) (by rw [ck 2 (by decide) (by decide) (by decide)]) (by rw [ck 3 (by decide) (by decide) (by decide)]) (by rw [mk 0 (by decide) (by decide)]) (by rw [mk 4 (by decide) (by decide)]) (by rw [mk 2 (by decide) (by decide)]) (by rw [mk 3 (by decide) (by decide)]) (by rw [mk 5 (by decide) (by decide)]), GM_of g2 (l1 _ _ (by decide)) (l1 _ _ (by decide)) (c1 _ _ (by decide)) (by rw [ck 3 (by decide) (by decide) (by decide)]) (by rw [lk 3 (by decide) (by decide)]) (by rw [ml 1 (by decide)]) (by rw [ml 8 (by decide)]) (by rw [ml 9 (by decide)]) (by rw [mk 6 (by decide) (by decide)]) (by rw [mk 7 (by decide) (by decide)]) (by rw [mk 10 (by decide) (by decide)]) (by rw [mk 5 (by decide) (by decide)]) (by rw [m8]), ?_⟩
    have eN := mNd_upd (ν := μ') (μ := μ) (g := k + 1) (i := j + 1) (by omega) r (by omega) (fun i h1 h2 h3 => cN_of (by rw [mk 2 (by decide) (by decide)]) (by rw [mk 3 (by decide) (by decide)]) (m15 i h3) (fun q hq => ⟨by rw [mk 16 (by decide) (by decide)], m17 _ (by have := hp i h2; omega)⟩))
    have eU := mUs_upd (ν := μ') (μ := μ) (g := k + 1) (i := j + 1) (by omega) r (by omega) (fun i h1 h2 h3 => cU_of (m15 i h3) (fun q hq => by rw [mk 16 (by decide) (by decide)]))
    exact ⟨by rw [oN k hk, eN, g3.1], by rw [oU k hk, eU, g3.2]⟩
  · by_cases e : i = j
    · subst e; exact oR
    · exact RR_of (hRR i hi) (Nat.le_refl _) (c4 i e) (by rw [lk 4 (by decide) (by decide)]) (by rw [R0]) (l6 i e) (m15 _ (by omega)) (by rw [mk 12 (by decide) (by decide)]) (m14 _ (by omega)) (by rw [ml 13 (by decide)]) (fun _ _ => by rw [mk 16 (by decide) (by decide)]) (fun k hk => m17 _ (by omega))
  · unfold DD at *; rw [c4 r (by omega), R0]; exact hD
  · rw [oL, mLive_upd (ν := μ') (μ := μ) (i := j + 1) (by omega) r (by omega) (fun i h1 h2 h3 => m14 i h3), hL]
  · obtain ⟨q1, q2, q3⟩ := hM
    refine ⟨fun i hi => by rw [m14 i (by omega)]; exact q1 i hi, fun g hg => ?_, by rw [m15 0 (by omega)]; exact q3⟩
    rw [mk 6 (by decide) (by decide), ml 8 (by decide), ml 9 (by decide)]
    exact q2 g hg
theorem need_of {σ μ : CS} {i : Nat} (h : GS σ μ i) : ∀ c : Nat, c ≤ 1000000000 → gNeed σ i (lN c) = mNeeds μ (i + 1) (lN c) := fun c hc => by
  obtain ⟨u, d, k1, k2, k3, k4, k5, k6, k7⟩ := h.2.2.2.2.1
  exact (need_eq k4 k5 k6 k7 k1 k2 k3 hc).1
theorem need0 {σ μ : CS} {i : Nat} (h : GS σ μ i) : gNeed σ i 0 = 0 := by
  obtain ⟨u, d, k1, k2, k3, k4, k5, k6, k7⟩ := h.2.2.2.2.1
  obtain ⟨e1, m, hm, e2⟩ := need_eq (c := 0) k4 k5 k6 k7 k1 k2 k3 (by omega)
  have : m = 0 := by omega
  rw [show (0 : Int64) = lN 0 from rfl, e1, e2, this]
theorem lN_ne0 {c : Nat} (h : 1 ≤ c) (h2 : c ≤ 1000000000) : ¬ lN c = 0 := fun e => by
  have := (pk_lEQ (a := c) (b := 0) (by omega) (by omega)).mp e
  omega
theorem Rel_end {σ μ : CS} {n r j : Nat} {O : List Nat} {how : Int32} (h : Rel σ μ n r O) (hj : j < r) (hs : fI σ 4 j 5 = 0) (hh : ¬ how = 0) (hh2 : 0 ≤ how) : Rel (rGo σ j how) (uI (uI μ 9 14 (j + 1) how) 9 15 (j + 1) 0) n r O := by
  have hw := WFm_of h
  have hn20 := h.1.1
  obtain ⟨⟨p, hp4, p1, p2, ht⟩, r1, r2, r3, r4⟩ := h.2.2.2.2.1 j hj
  have hpn : pN σ j = p := pN_of p1 hp4
  have hmp : mP μ (j + 1) = p := mP_of p2 hp4
  have hmp' : mP (uI (uI μ 9 14 (j + 1) how) 9 15 (j + 1) 0) (j + 1) = 0 := mP_of (p := 0) (by rw [fI_uI, up3_at, va_up_self]; rfl) (by omega)
  have hs2 : fI μ 9 14 (j + 1) = 0 := r3.symm.trans hs
  have hnz : ∀ k, k < p → ¬ fL σ 6 j k = 0 := fun k hk => by
    obtain ⟨g, c, t1, t2, t3, t4, t5, t6, t7⟩ := ht k hk
    rw [t4]; exact lN_ne0 t6 t7
  have x0 : fI (rGo σ j how) 0 0 8 = fI σ 0 0 8 - 1 := by
    unfold rGo rFin
    simp only [fI_uI, fI_uL, up3_val, rDrop_I (show (0 : Nat) ≠ 1 by decide)]
    simp
  refine Rel_res h hj ?_ ?_ ?_ ?_ ?_ ?_ ?_ ?_ ?_ ?_ rfl ?_ ?_ ?_ (fun _ _ => rfl) (fun _ _ => rfl) ?_ ?_ ?_ ?_
  · intro f hf
    unfold rGo rFin
    simp only [fI_uI, fI_uL, up3_val, rDrop_I (show (0 : Nat) ≠ 1 by decide)]
    simp [hf]
  · intro k h0 h1 h4
    funext i f
    unfold rGo rFin
    simp only [fI_uI, fI_uL, up3_val, rDrop_I h1]
    simp [h0, h4]
  · intro g f hf
    unfold rGo rFin
    simp only [fI_uI, fI_uL, up3_val, drop_I hf]
    simp
  · intro i hi
    funext f
    unfold rGo rFin
    simp only [fI_uI, fI_uL, up3_val, rDrop_I (show (4 : Nat) ≠ 1 by decide)]
    simp [hi]
  · intro k h1 h6
    exact rDrop_L h1 _
  · intro g f hf
    exact drop_L hf _
  · intro i hi
    exact congrFun (rDrop_L (show (6 : Nat) ≠ 1 by decide) _) i
  · exact rDrop_R _
  · exact rDrop_G _
  · exact rDrop_N _
  · intro f h14 h15
    funext q
    simp [fI_uI, up3_val, h14, h15]
  · intro q hq
    simp [fI_uI, up3_val, hq]
  · intro q hq
    simp [fI_uI, up3_val, hq]
  · refine ⟨⟨0, by omega, ?_, ?_, fun k hk => by omega⟩, ?_, ?_, ?_, ?_⟩
    · unfold rGo rFin
      simp [fI_uI, fI_uL, up3_val]
      rfl
    · simp [fI_uI, up3_val]
      rfl
    · have : fI (rGo σ j how) 4 j 3 = fI σ 4 j 3 := by
        unfold rGo rFin
        simp only [fI_uI, fI_uL, up3_val, rDrop_I (show (4 : Nat) ≠ 1 by decide)]
        simp
      rw [this, r1]
      simp [fI_uI, up3_val]
    · have : fL (rGo σ j how) 4 j 4 = fL σ 4 j 4 := congrFun (congrFun (rDrop_L (show (4 : Nat) ≠ 1 by decide) _) j) 4
      rw [this, r2]
      rfl
    · unfold rGo rFin
      simp [fI_uI, fI_uL, up3_val]
    · simp [fI_uI, up3_val]
      exact hh2
  · intro g hg
    have gs := (h.2.2.2.1 g hg).1
    have e1 : fL (rGo σ j how) 1 g 6 = fL σ 1 g 6 - dN σ g j p := by rw [← drop_6 (need0 gs) p, ← hpn]; rfl
    have e2 : cN (uI (uI μ 9 14 (j + 1) how) 9 15 (j + 1) 0) (g + 1) (j + 1) = 0 := by unfold cN; rw [hmp']; rfl
    have e3 : cN μ (g + 1) (j + 1) = dN σ g j p := by unfold cN; rw [hmp]; exact (dN_tie hn20 hg (need_of gs) p ht).symm
    rw [e1, e2, e3]; grind
  · intro g hg
    have e1 : fI (rGo σ j how) 1 g 8 = fI σ 1 g 8 - dU σ g j p := by
      rw [← drop_8 p hnz, ← hpn]
      unfold rGo rFin
      simp [fI_uI, fI_uL, up3_val]
    have e2 : cU (uI (uI μ 9 14 (j + 1) how) 9 15 (j + 1) 0) (g + 1) (j + 1) = 0 := by unfold cU; rw [hmp']; rfl
    have e3 : cU μ (g + 1) (j + 1) = dU σ g j p := by unfold cU; rw [hmp]; exact (dU_tie hn20 hg p ht).symm
    rw [e1, e2, e3]; grind
  · have e1 : fI (uI (uI μ 9 14 (j + 1) how) 9 15 (j + 1) 0) 9 14 (j + 1) = how := by simp [fI_uI, up3_val]
    rw [x0, e1, hs2, if_neg hh, if_pos rfl]
    grind
/-- one step of a reduction -/
theorem min_lN {b c : Nat} (hb : b < 2 ^ 63) (hc : c < 2 ^ 63) : lMin (lN b) (lN c) = lN (min b c) ∧ mMin (lN c) (lN b) = lN (min b c) := by
  unfold lMin mMin
  simp only [pk_lLT hc hb, pk_lLE hb hc]
  constructor
  · split
    · rw [Nat.min_eq_right (by omega)]
    · rw [Nat.min_eq_left (by omega)]
  · split
    · rw [Nat.min_eq_left (by omega)]
    · rw [Nat.min_eq_right (by omega)]
def mStep (μ : CS) (j k : Nat) (less : Int64) : CS := uI (uL μ 9 17 (4 * (j + 1) + k) (fL μ 9 17 (4 * (j + 1) + k) - less)) 9 15 (j + 1) (if fL μ 9 17 (4 * (j + 1) + k) - less = 0 then nI k else nI (k + 1))
theorem Rel_shr {σ μ : CS} {n r j k b c : Nat} {O : List Nat} (h : Rel σ μ n r O) (hj : j < r) (hp : fI σ 4 j 2 = nI (k + 1)) (hk4 : k + 1 ≤ 4) (hc : fL σ 6 j k = lN c) (hb1 : 1 ≤ b) (hb2 : b < 2 ^ 63) : Rel (rSh3 (rSh2 (rSh1 σ j k (lN b)) j k (lMin (lN b) (fL σ 6 j k))) j k) (mStep μ j k (mMin (fL μ 9 17 (4 * (j + 1) + k)) (lN b))) n r O := by
  have hn20 := h.1.1
  obtain ⟨⟨p, hp4, p1, p2, ht⟩, r1, r2, r3, r4⟩ := h.2.2.2.2.1 j hj
  have hpk : p = k + 1 := (nI_eq (by omega) (by omega)).mp (p1.symm.trans hp)
  subst hpk
  obtain ⟨g0, c', t1, t2, t3, t4, t5, t6, t7⟩ := ht k (by omega)
  have hcc : fL σ 6 j k = lN c' := t4
  obtain ⟨m1, m2⟩ := min_lN (b := b) (c := c') hb2 (by omega)
  have hmin : min b c' ≤ c' := Nat.min_le_right _ _
  have hs : fL σ 6 j k - lMin (lN b) (fL σ 6 j k) = lN (c' - min b c') := by rw [hcc, m1, lN_sub hmin]
  have hs2 : fL μ 9 17 (4 * (j + 1) + k) - mMin (fL μ 9 17 (4 * (j + 1) + k)) (lN b) = lN (c' - min b c') := by rw [t5, m2, lN_sub hmin]
  -- the states by their fields
  obtain ⟨σ', hσ'⟩ : ∃ σ', σ' = rSh3 (rSh2 (rSh1 σ j k (lN b)) j k (lMin (lN b) (fL σ 6 j k))) j k := ⟨_, rfl⟩
  obtain ⟨μ', hμ'⟩ : ∃ μ', μ' = mStep μ j k (mMin (fL μ 9 17 (4 * (j + 1) + k)) (lN b)) := ⟨_, rfl⟩
  have z0 : ∀ {x : Nat}, x ≤ 1000000000 → (lN x = 0 ↔ x = 0) := fun hx => pk_lEQ (b := 0) (by omega) (by omega)
  have e6 : fL (rSh2 (rSh1 σ j k (lN b)) j k (lMin (lN b) (fL σ 6 j k))) 6 j k = lN (c' - min b c') := by
    unfold rSh2 rSh1
    rw [fL_uL, up3_at, va_up_self, rTell_L (by decide), hs]
  have S3 : σ' = if c' - min b c' = 0 then uI (rSh2 (rSh1 σ j k (lN b)) j k (lMin (lN b) (fL σ 6 j k))) 4 j 2 (nI k) else rSh2 (rSh1 σ j k (lN b)) j k (lMin (lN b) (fL σ 6 j k)) := by
    rw [hσ']; unfold rSh3; rw [e6]
    by_cases q : c' - min b c' = 0
    · rw [if_pos q, if_pos ((z0 (by omega)).mpr q)]
    · rw [if_neg q, if_neg (fun w => q ((z0 (by omega)).mp w))]
  have Ik : ∀ i f, ¬ (i = 4 ∧ f = 2) → True := fun _ _ _ => trivial
  have cI : ∀ k9, k9 ≠ 1 → k9 ≠ 4 → fI σ' k9 = fI σ k9 := fun k9 h1 h4 => by
    have : fI (rSh2 (rSh1 σ j k (lN b)) j k (lMin (lN b) (fL σ 6 j k))) k9 = fI σ k9 := by unfold rSh2 rSh1; rw [fI_uL, rTell_I h1]
    rw [S3]; split
    · funext i f
      rw [fI_uI, up3_ne _ _ _ (fun q => h4 q.1), this]
    · exact this
  have cI4 : fI (rSh2 (rSh1 σ j k (lN b)) j k (lMin (lN b) (fL σ 6 j k))) 4 = fI σ 4 := by unfold rSh2 rSh1; rw [fI_uL, rTell_I (by decide)]
  have cI1 : fI σ' 1 = fI (rSh1 σ j k (lN b)) 1 := by
    rw [S3]; split
    · funext i f; rw [fI_uI, up3_ne _ _ _ (fun q => absurd q.1 (by decide))]; rfl
    · rfl
  have cL : ∀ k9, k9 ≠ 6 → fL σ' k9 = fL (rSh1 σ j k (lN b)) k9 := fun k9 h6 => by
    have : fL (rSh2 (rSh1 σ j k (lN b)) j k (lMin (lN b) (fL σ 6 j k))) k9 = fL (rSh1 σ j k (lN b)) k9 := by
      funext i; unfold rSh2; rw [fL_uL, up3_ne _ _ _ (fun q => h6 q.1)]
    rw [S3]; split
    · exact this
    · exact this
  have cL6 : fL σ' 6 = fL (rSh2 (rSh1 σ j k (lN b)) j k (lMin (lN b) (fL σ 6 j k))) 6 := by
    rw [S3]; split <;> rfl
  have cL6i : ∀ i f, ¬ (i = j ∧ f = k) → fL σ' 6 i f = fL σ 6 i f := fun i f hif => by
    rw [cL6]; unfold rSh2 rSh1
    rw [fL_uL, up3_val, if_neg (fun q => hif ⟨q.2.1, q.2.2⟩), rTell_L (by decide)]
  have mI : ∀ f, f ≠ 15 → fI μ' 9 f = fI μ 9 f := fun f hf => by
    rw [hμ']; funext q; unfold mStep; rw [fI_uI, up3_ne _ _ _ (fun z => hf z.2), fI_uL]
  have mI15 : ∀ q, q ≠ j + 1 → fI μ' 9 15 q = fI μ 9 15 q := fun q hq => by
    rw [hμ']; unfold mStep; rw [fI_uI, up3_at, up_ne hq, fI_uL]
  have mL : ∀ f, f ≠ 17 → fL μ' 9 f = fL μ 9 f := fun f hf => by
    rw [hμ']; funext q; unfold mStep; rw [fL_uI, fL_uL, up3_ne _ _ _ (fun z => hf z.2)]
  have mL17 : ∀ q, q ≠ 4 * (j + 1) + k → fL μ' 9 17 q = fL μ 9 17 q := fun q hq => by
    rw [hμ']; unfold mStep; rw [fL_uI, fL_uL, up3_at, up_ne hq]
  have mLk : fL μ' 9 17 (4 * (j + 1) + k) = lN (c' - min b c') := by
    rw [hμ']; unfold mStep; rw [fL_uI, fL_uL, up3_at, va_up_self, hs2]
  have mPj : fI μ' 9 15 (j + 1) = if c' - min b c' = 0 then nI k else nI (k + 1) := by
    rw [hμ']; unfold mStep; rw [fI_uI, up3_at, va_up_self, hs2]
    by_cases q : c' - min b c' = 0
    · rw [if_pos q, if_pos ((z0 (by omega)).mpr q)]
    · rw [if_neg q, if_neg (fun w => q ((z0 (by omega)).mp w))]
  have sPj : fI σ' 4 j 2 = if c' - min b c' = 0 then nI k else nI (k + 1) := by
    rw [S3]; split
    · rw [fI_uI, up3_at, va_up_self]
    · rw [cI4]; exact p1
  have s4 : ∀ i f, ¬ (i = j ∧ f = 2) → fI σ' 4 i f = fI σ 4 i f := fun i f hif => by
    rw [S3]; split
    · rw [fI_uI, up3_val, if_neg (fun q => hif ⟨q.2.1, q.2.2⟩), cI4]
    · rw [cI4]
  have sLk : fL σ' 6 j k = lN (c' - min b c') := by rw [cL6]; exact e6
  have mM : mP μ (j + 1) = k + 1 := mP_of p2 (by omega)
  have mN0 : mP μ' (j + 1) = if c' - min b c' = 0 then k else k + 1 := by
    by_cases q : c' - min b c' = 0
    · rw [if_pos q]; rw [if_pos q] at mPj; exact mP_of mPj (by omega)
    · rw [if_neg q]; rw [if_neg q] at mPj; exact mP_of mPj (by omega)
  rw [← hσ', ← hμ']
  refine Rel_res h hj (fun f _ => by rw [cI 0 (by decide) (by decide)]) (fun k9 _ h1 h4 => cI k9 h1 h4) (fun g f hf => by rw [cI1]; exact tell_I hf) (fun i hi => by funext f; exact s4 i f (fun q => hi q.1)) (fun k9 h1 h6 => by rw [cL k9 h6]; exact rTell_L h1) (fun g f hf => by rw [cL 1 (by decide)]; exact tell_L hf) (fun i hi => by funext f; exact cL6i i f (fun q => hi q.1)) (by rw [hσ']; exact rSh_R) (by rw [hσ']; exact rSh_G) (by rw [hσ']; exact rSh_N) (by rw [hμ']; rfl) (fun f _ h15 => mI f h15) (fun q _ => by rw [mI 14 (by decide)]) mI15 mL (fun q hq => mL17 q (by omega)) ?_ ?_ ?_ ?_
  · refine ⟨?_, by rw [s4 j 3 (by omega), mI 12 (by decide)]; exact r1, by rw [cL 4 (by decide), show fL (rSh1 σ j k (lN b)) 4 = fL σ 4 from rTell_L (by decide), mL 13 (by decide)]; exact r2, by rw [s4 j 5 (by omega), mI 14 (by decide)]; exact r3, by rw [mI 14 (by decide)]; exact r4⟩
    have hlow : ∀ i, i < k → ∃ g c, fR σ' 5 j i = some g ∧ g < n ∧ fI μ' 9 16 (4 * (j + 1) + i) = nI (g + 1) ∧ fL σ' 6 j i = lN c ∧ fL μ' 9 17 (4 * (j + 1) + i) = lN c ∧ 1 ≤ c ∧ c ≤ 1000000000 := fun i hi => by
      obtain ⟨g, c9, q1, q2, q3, q4, q5, q6, q7⟩ := ht i (by omega)
      exact ⟨g, c9, by rw [hσ', rSh_R]; exact q1, q2, by rw [mI 16 (by decide)]; exact q3, by rw [cL6i j i (by omega)]; exact q4, by rw [mL17 _ (by omega)]; exact q5, q6, q7⟩
    by_cases q : c' - min b c' = 0
    · rw [if_pos q] at mPj sPj
      exact ⟨k, by omega, sPj, mPj, hlow⟩
    · rw [if_neg q] at mPj sPj
      refine ⟨k + 1, by omega, sPj, mPj, fun i hi => ?_⟩
      by_cases hik : i = k
      · subst hik
        exact ⟨g0, c' - min b c', by rw [hσ', rSh_R]; exact t1, t2, by rw [mI 16 (by decide)]; exact t3, sLk, mLk, by omega, by omega⟩
      · exact hlow i (by omega)
  · intro g hg
    have gs := (h.2.2.2.1 g hg).1
    have e1 : fL σ' 1 g 6 = fL σ 1 g 6 + (if fR σ 5 j k = some g then gNeed σ g (lN (c' - min b c')) - gNeed σ g (lN c') else 0) := by
      rw [cL 1 (by decide)]
      unfold rSh1
      rw [tell_6, hs, hcc]
    have e2 : cN μ (g + 1) (j + 1) = mNdI μ (g + 1) (j + 1) 0 k + (if fI μ 9 16 (4 * (j + 1) + k) = nI (g + 1) then mNeeds μ (g + 1) (lN c') else 0) := by
      unfold cN; rw [mM, mNdI, t5]
    have e3 : mNdI μ' (g + 1) (j + 1) 0 k = mNdI μ (g + 1) (j + 1) 0 k := mNdI_of (by rw [mI 2 (by decide)]) (by rw [mI 3 (by decide)]) k (fun i hi => ⟨by rw [mI 16 (by decide)], mL17 _ (by omega)⟩)
    have e4 : cN μ' (g + 1) (j + 1) = mNdI μ (g + 1) (j + 1) 0 k + (if fI μ 9 16 (4 * (j + 1) + k) = nI (g + 1) then mNeeds μ (g + 1) (lN (c' - min b c')) else 0) := by
      unfold cN; rw [mN0]
      by_cases q : c' - min b c' = 0
      · have z : mNeeds μ (g + 1) (lN 0) = 0 := by rw [← need_of gs 0 (by omega)]; exact need0 gs
        rw [if_pos q, e3, q, z]; simp
      · rw [if_neg q, mNdI, e3, mI 16 (by decide), mLk, mNeeds_of (μ := μ) (by rw [mI 2 (by decide)]) (by rw [mI 3 (by decide)])]
    have e5 : (fR σ 5 j k = some g) ↔ (fI μ 9 16 (4 * (j + 1) + k) = nI (g + 1)) := by
      rw [t1, t3]
      constructor
      · intro q; cases q; rfl
      · intro q; have := (nI_eq (by omega) (by omega)).mp q; rw [show g0 = g by omega]
    rw [e1, e2, e4, need_of gs _ (by omega), need_of gs _ (by omega)]
    by_cases q : fR σ 5 j k = some g
    · rw [if_pos q, if_pos (e5.mp q), if_pos (e5.mp q)]; grind
    · rw [if_neg q, if_neg (fun w => q (e5.mpr w)), if_neg (fun w => q (e5.mpr w))]; grind
  · intro g hg
    have e1 : fI σ' 1 g 8 = fI σ 1 g 8 + (if fR σ 5 j k = some g then 0 - (if c' - min b c' = 0 then 1 else 0) else 0) := by
      rw [cI1]
      unfold rSh1
      rw [tell_8, hs, hcc, if_neg (lN_ne0 t6 t7)]
      by_cases q : c' - min b c' = 0
      · rw [if_pos q, if_pos ((z0 (by omega)).mpr q)]
      · rw [if_neg q, if_neg (fun w => q ((z0 (by omega)).mp w))]
    have e2 : cU μ (g + 1) (j + 1) = mUsI μ (g + 1) (j + 1) 0 k + (if fI μ 9 16 (4 * (j + 1) + k) = nI (g + 1) then 1 else 0) := by
      unfold cU; rw [mM, mUsI]
    have e3 : mUsI μ' (g + 1) (j + 1) 0 k = mUsI μ (g + 1) (j + 1) 0 k := mUsI_of k (fun i hi => by rw [mI 16 (by decide)])
    have e4 : cU μ' (g + 1) (j + 1) = mUsI μ (g + 1) (j + 1) 0 k + (if c' - min b c' = 0 then 0 else (if fI μ 9 16 (4 * (j + 1) + k) = nI (g + 1) then 1 else 0)) := by
      unfold cU; rw [mN0]
      by_cases q : c' - min b c' = 0
      · rw [if_pos q, if_pos q, e3]; simp
      · rw [if_neg q, if_neg q, mUsI, e3, mI 16 (by decide)]
    have e5 : (fR σ 5 j k = some g) ↔ (fI μ 9 16 (4 * (j + 1) + k) = nI (g + 1)) := by
      rw [t1, t3]
      constructor
      · intro q; cases q; rfl
      · intro q; have := (nI_eq (by omega) (by omega)).mp q; rw [show g0 = g by omega]
    rw [e1, e2, e4]
    by_cases q : fR σ 5 j k = some g
    · rw [if_pos q, if_pos (e5.mp q)]
      by_cases w : c' - min b c' = 0
      · rw [if_pos w, if_pos w]; grind
      · rw [if_neg w, if_neg w]; grind
    · rw [if_neg q, if_neg (fun w => q (e5.mpr w))]
      by_cases w : c' - min b c' = 0
      · rw [if_pos w]; grind
      · rw [if_neg w]; grind
  · rw [cI 0 (by decide) (by decide), mI 14 (by decide)]; grind

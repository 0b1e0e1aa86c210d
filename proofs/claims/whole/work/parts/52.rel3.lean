/-! close, a loss, and what changes one reservation -/
theorem run_eq {am : Int64} {rt day beg : Int32} (h : beg ≤ day) : am * rt.toInt64 * (day - beg).toInt64 / 3650000 = (if day ≤ beg then 0 else am * (day - beg).toInt64 * rt.toInt64 / 3650000) := by
  split
  · rename_i h2
    have e : day = beg := Int32.le_antisymm h2 h
    subst e
    rw [Int32.sub_self, show (0 : Int32).toInt64 = 0 from rfl, Int64.mul_zero, Int64.zero_div]
  · congr 1; grind
theorem Rel_close {σ μ : CS} {n r : Nat} {O : List Nat} {i : Nat} (h : Rel σ μ n r O) (hi : i < n) (h0 : fI μ 9 6 (i + 1) = 0) : Rel (gShut σ i (fI σ 0 0 9)) (uI (uI μ 9 6 (i + 1) 1) 9 7 (i + 1) (fI μ 8 0 2)) n r O := by
  have hw := WFm_of h
  obtain ⟨hB, hR, hO, hG, hRR, hD, hL, hM⟩ := h
  have I1 : ∀ g f, f ≠ 9 → fI (gShut σ i (fI σ 0 0 9)) 1 g f = fI σ 1 g f := fun g f hf => by
    simp [gShut, nStop, nEnd, fI_uI, fI_uL, up3_val, hf]
  have I3 : ∀ g, g ≠ i → fI (gShut σ i (fI σ 0 0 9)) 3 g = fI σ 3 g := fun g hg => by
    funext f; simp [gShut, nStop, nEnd, fI_uI, fI_uL, up3_val, hg]
  have L3 : ∀ g, g ≠ i → fL (gShut σ i (fI σ 0 0 9)) 3 g = fL σ 3 g := fun g hg => by
    funext f; simp [gShut, nStop, nEnd, fL_uI, fL_uL, up3_val, hg]
  have L1 : fL (gShut σ i (fI σ 0 0 9)) 1 = fL σ 1 := rfl
  have M6 : ∀ g, g ≠ i + 1 → fI (uI (uI μ 9 6 (i + 1) 1) 9 7 (i + 1) (fI μ 8 0 2)) 9 6 g = fI μ 9 6 g := fun g hg => by simp [fI_uI, up3_val, hg]
  have M7 : ∀ g, g ≠ i + 1 → fI (uI (uI μ 9 6 (i + 1) 1) 9 7 (i + 1) (fI μ 8 0 2)) 9 7 g = fI μ 9 7 g := fun g hg => by simp [fI_uI, up3_val, hg]
  refine ⟨hB, hR, ?_, fun k hk => ?_, fun j hj => ?_, hD, ?_, ?_⟩
  · exact OO_of hO rfl rfl rfl (fun g => I1 g 1 (by decide)) rfl
  · obtain ⟨g1, g2, g3⟩ := hG k hk
    refine ⟨GS_of g1 (I1 _ _ (by decide)) (I1 _ _ (by decide)) (I1 _ _ (by decide)) rfl (by simp [gShut, nStop, nEnd, fI_uI, fI_uL, up3_val]) rfl rfl rfl rfl rfl, ?_, ?_⟩
    · by_cases e : k = i
      · subst e
        obtain ⟨a1, a2, a3, a4⟩ := g2
        rcases a4 with ⟨q1, q2, q3, q4, q5⟩ | ⟨q1, -⟩
        · refine ⟨a1, a2, ?_, Or.inr ⟨?_, ?_, ?_, ?_⟩⟩
          · simp [gShut, fI_uI, up3_val]
          · simp [fI_uI, up3_val]
          · simp [gShut, nStop, fI_uI, up3_val]
          · obtain ⟨a, a6, a7, a8⟩ := a1
            have hb9 : fI σ 0 0 9 = fI μ 8 0 2 := hB.2.2.2.2.2.2.2.2.1
            have e1 : fL (gShut σ k (fI σ 0 0 9)) 3 k 1 = nUp σ k (fI σ 0 0 9) (fL σ 1 k 5) := by simp [gShut, nStop, nEnd, fL_uI, fL_uL, up3_val]
            have e2 : mRun (uI (uI μ 9 6 (k + 1) 1) 9 7 (k + 1) (fI μ 8 0 2)) (k + 1) = (if fI μ 8 0 2 ≤ fI μ 9 10 (k + 1) then 0 else fL μ 9 1 (k + 1) * (fI μ 8 0 2 - fI μ 9 10 (k + 1)).toInt64 * (fI μ 9 5 (k + 1)).toInt64 / 3650000) := by
              unfold mRun
              simp [fI_uI, fL_uI, up3_val]
            have e3 := g1.2.2.2.2.2
            rw [e1, e2]
            unfold nUp
            rw [if_pos q2, q3, q4, hb9, e3, a7, a8, run_eq q5]
            rfl
          · simp [fI_uI, up3_val]
        · exact absurd h0 q1
      · exact GM_of g2 rfl rfl (by simp [gShut, fI_uI, up3_val, e]; rfl) (I3 k e) (by rw [L3 k e]) rfl rfl rfl (M6 _ (by omega)) (M7 _ (by omega)) rfl rfl rfl
    · have e := nd_same (μ' := uI (uI μ 9 6 (i + 1) 1) 9 7 (i + 1) (fI μ 8 0 2)) (g := k + 1) hw rfl rfl (fun _ _ => rfl) (fun _ _ => rfl) (fun _ _ => rfl)
      unfold GU at *
      rw [e.1, e.2, I1 k 8 (by decide)]
      exact g3
  · exact RR_of (hRR j hj) (Nat.le_refl _) rfl rfl rfl rfl rfl rfl rfl rfl (fun _ _ => rfl) (fun _ _ => rfl)
  · exact hL.trans (mLive_of (ν := uI (uI μ 9 6 (i + 1) 1) 9 7 (i + 1) (fI μ 8 0 2)) (μ := μ) r (fun _ _ _ => rfl)).symm
  · obtain ⟨m1, m2, m3⟩ := hM
    exact ⟨m1, fun g hg => by rw [M6 g (by omega)]; exact m2 g hg, m3⟩
theorem Rel_lose {σ μ : CS} {n r : Nat} {O : List Nat} {i a b : Nat} (h : Rel σ μ n r O) (hi : i < n) (ha : fL σ 1 i 5 = lN a) (ha9 : a ≤ 1000000000) (hb : b ≤ a) : Rel (gLo2 (gLo1 (nEnd σ i (fI σ 0 0 9) (fL σ 1 i 5)) i (lN b)) i (lN b)) (mLose μ (i + 1) (lN b)) n r O := by
  have hw := WFm_of h
  obtain ⟨hB, hR, hO, hG, hRR, hD, hL, hM⟩ := h
  have hσ : ∃ σ', σ' = gLo2 (gLo1 (nEnd σ i (fI σ 0 0 9) (fL σ 1 i 5)) i (lN b)) i (lN b) := ⟨_, rfl⟩
  obtain ⟨σ', hσ'⟩ := hσ
  have hμ : ∃ μ', μ' = mLose μ (i + 1) (lN b) := ⟨_, rfl⟩
  obtain ⟨μ', hμ'⟩ := hμ
  have I0 : ∀ k, k ≠ 3 → fI σ' k = fI σ k := fun k hk => by
    subst hσ'; funext g f; simp [gLo2, gLo1, nEnd, fI_uI, fI_uL, up3_val, hk]
  have L0 : ∀ k, k ≠ 3 → k ≠ 1 → fL σ' k = fL σ k := fun k hk hk1 => by
    subst hσ'; funext g f; simp [gLo2, gLo1, nEnd, fL_uI, fL_uL, up3_val, hk, hk1]
  have R0 : fR σ' = fR σ := by subst hσ'; rfl
  have G0 : nG σ' = nG σ := by subst hσ'; rfl
  have N0 : nR σ' = nR σ := by subst hσ'; rfl
  have I3 : ∀ g, g ≠ i → fI σ' 3 g = fI σ 3 g := fun g hg => by
    subst hσ'; funext f; simp [gLo2, gLo1, nEnd, fI_uI, fI_uL, up3_val, hg]
  have I30 : ∀ g, fI σ' 3 g 0 = fI σ 3 g 0 := fun g => by
    subst hσ'; simp [gLo2, gLo1, nEnd, fI_uI, fI_uL, up3_val]
  have L3 : ∀ g, g ≠ i → fL σ' 3 g = fL σ 3 g := fun g hg => by
    subst hσ'; funext f; simp [gLo2, gLo1, nEnd, fL_uI, fL_uL, up3_val, hg]
  have L1 : ∀ g, g ≠ i → fL σ' 1 g = fL σ 1 g := fun g hg => by
    subst hσ'; funext f; simp [gLo2, gLo1, nEnd, fL_uI, fL_uL, up3_val, hg]
  have L16 : ∀ g, fL σ' 1 g 6 = fL σ 1 g 6 := fun g => by
    subst hσ'; simp [gLo2, gLo1, nEnd, fL_uI, fL_uL, up3_val]
  have M8 : fI μ' 8 = fI μ 8 := by subst hμ'; rfl
  have MI : ∀ f, f ≠ 10 → fI μ' 9 f = fI μ 9 f := fun f hf => by
    subst hμ'; funext g; simp [mLose, mEnd, fI_uI, fI_uL, up3_val, hf]
  have MI2 : ∀ g, g ≠ i + 1 → ∀ f, fI μ' 9 f g = fI μ 9 f g := fun g hg f => by
    subst hμ'; simp [mLose, mEnd, fI_uI, fI_uL, up3_val, hg]
  have ML : ∀ f, f ≠ 1 → f ≠ 8 → f ≠ 9 → fL μ' 9 f = fL μ 9 f := fun f h1 h8 h9 => by
    subst hμ'; funext g; simp [mLose, mEnd, fL_uI, fL_uL, up3_val, h1, h8, h9]
  have ML2 : ∀ g, g ≠ i + 1 → ∀ f, fL μ' 9 f g = fL μ 9 f g := fun g hg f => by
    subst hμ'; simp [mLose, mEnd, fL_uI, fL_uL, up3_val, hg]
  have e1 : fL σ' 3 i 1 = nUp σ i (fI σ 0 0 9) (fL σ 1 i 5) := by subst hσ'; simp [gLo2, gLo1, nEnd, fL_uI, fL_uL, up3_val]
  have e2 : fI σ' 3 i 2 = fI σ 0 0 9 := by subst hσ'; simp [gLo2, gLo1, nEnd, fI_uI, fI_uL, up3_val]
  have e3 : fI σ' 3 i 3 = fI σ 3 i 3 := by subst hσ'; simp [gLo2, gLo1, nEnd, fI_uI, fI_uL, up3_val]
  have e5 : fL σ' 1 i 5 = fL σ 1 i 5 - lN b := by subst hσ'; simp [gLo2, gLo1, nEnd, fL_uI, fL_uL, up3_val]
  have e7 : fL σ' 1 i 7 = fL σ 1 i 7 + lN b := by subst hσ'; simp [gLo2, gLo1, nEnd, fL_uI, fL_uL, up3_val]
  have f9 : fL μ' 9 9 (i + 1) = fL μ 9 9 (i + 1) + mRun μ (i + 1) := by subst hμ'; simp [mLose, mEnd, fL_uI, fL_uL, up3_val]
  have f10 : fI μ' 9 10 (i + 1) = fI μ 8 0 2 := by subst hμ'; simp [mLose, mEnd, fI_uI, fI_uL, up3_val]
  have f1 : fL μ' 9 1 (i + 1) = fL μ 9 1 (i + 1) - lN b := by subst hμ'; simp [mLose, mEnd, fL_uI, fL_uL, up3_val]
  have f8 : fL μ' 9 8 (i + 1) = fL μ 9 8 (i + 1) + lN b := by subst hμ'; simp [mLose, mEnd, fL_uI, fL_uL, up3_val]
  rw [← hσ', ← hμ']
  clear hσ' hμ'
  refine ⟨?_, ?_, ?_, fun k hk => ?_, fun j hj => ?_, ?_, ?_, ?_⟩
  · unfold BB at *
    rw [G0, N0, R0, I0 0 (by decide), I0 7 (by decide), M8, MI 18 (by decide), MI 19 (by decide)]
    exact hB
  · unfold RG at *; rw [R0, G0, N0]; exact hR
  · exact OO_of hO (by rw [R0]) (by rw [R0]) G0 (fun g => by rw [I0 1 (by decide)]) (MI 11 (by decide))
  · obtain ⟨g1, g2, g3⟩ := hG k hk
    refine ⟨GS_of g1 (by rw [I0 1 (by decide)]) (by rw [I0 1 (by decide)]) (by rw [I0 1 (by decide)]) (by rw [I0 2 (by decide)]) (I30 k) (by rw [MI 0 (by decide)]) (by rw [MI 4 (by decide)]) (by rw [MI 2 (by decide)]) (by rw [MI 3 (by decide)]) (by rw [MI 5 (by decide)]), ?_, ?_⟩
    · by_cases e : k = i
      · subst e
        obtain ⟨a1, a2, a3, a4⟩ := g2
        obtain ⟨a', a6, a7, a8⟩ := a1
        have haa : a' = a := (pk_lEQ (by omega) (by omega)).mp (a7.symm.trans ha)
        subst haa
        have hb9 : fI σ 0 0 9 = fI μ 8 0 2 := hB.2.2.2.2.2.2.2.2.1
        refine ⟨⟨a' - b, by omega, by rw [e5, a7, lN_sub hb], by rw [f1, a8, lN_sub hb]⟩, by rw [e7, f8, a2], by rw [I0 1 (by decide), MI 6 (by decide)]; exact a3, ?_⟩
        rw [MI 6 (by decide), MI 7 (by decide), e1, e2, e3, f9, f10, M8]
        rcases a4 with ⟨q1, q2, q3, q4, q5⟩ | ⟨q1, q2, q3, q4⟩
        · refine Or.inl ⟨q1, q2, ?_, hb9, Int32.le_refl _⟩
          have e4 := g1.2.2.2.2.2
          unfold nUp mRun
          rw [if_pos q2, if_pos q1, q3, q4, hb9, e4, a7, a8, run_eq q5]
        · refine Or.inr ⟨q1, q2, ?_, q4⟩
          have e4 : mRun μ' (k + 1) = 0 := by
            unfold mRun
            rw [MI 6 (by decide), if_neg q1, MI 7 (by decide), f10, if_pos q4]
          unfold nUp
          rw [if_neg q2, q3, e4, Int64.add_zero]
      · have hk1 : k + 1 ≠ i + 1 := by omega
        exact GM_of g2 (by rw [L1 k e]) (by rw [L1 k e]) (by rw [I0 1 (by decide)]) (I3 k e) (by rw [L3 k e]) (ML2 _ hk1 1) (ML2 _ hk1 8) (ML2 _ hk1 9) (MI2 _ hk1 6) (MI2 _ hk1 7) (MI2 _ hk1 10) (MI2 _ hk1 5) (by rw [M8])
    · have e := nd_same (μ' := μ') (g := k + 1) hw (by rw [MI 2 (by decide)]) (by rw [MI 3 (by decide)]) (fun _ _ => by rw [MI 15 (by decide)]) (fun _ _ => by rw [MI 16 (by decide)]) (fun _ _ => by rw [ML 17 (by decide) (by decide) (by decide)])
      unfold GU at *
      rw [e.1, e.2, L16 k, I0 1 (by decide)]
      exact g3
  · exact RR_of (hRR j hj) (Nat.le_refl _) (by rw [I0 4 (by decide)]) (by rw [L0 4 (by decide) (by decide)]) (by rw [R0]) (by rw [L0 6 (by decide) (by decide)]) (by rw [MI 15 (by decide)]) (by rw [MI 12 (by decide)]) (by rw [MI 14 (by decide)]) (by rw [ML 13 (by decide) (by decide) (by decide)]) (fun _ _ => by rw [MI 16 (by decide)]) (fun _ _ => by rw [ML 17 (by decide) (by decide) (by decide)])
  · unfold DD at *; rw [I0 4 (by decide), R0]; exact hD
  · rw [I0 0 (by decide)]; exact hL.trans (mLive_of (ν := μ') (μ := μ) r (fun _ _ _ => by rw [MI 14 (by decide)])).symm
  · obtain ⟨m1, m2, m3⟩ := hM
    refine ⟨fun j hj => by rw [MI 14 (by decide)]; exact m1 j hj, fun g hg => ?_, by rw [MI 15 (by decide)]; exact m3⟩
    rw [MI 6 (by decide), ML2 g (by omega), ML2 g (by omega)]
    exact m2 g hg

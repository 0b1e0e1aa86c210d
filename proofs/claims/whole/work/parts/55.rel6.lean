/-! look, of, end, reduce, claim -/
theorem op_look {σ μ : CS} {n r : Nat} {O : List Nat} {x w : Int32} (h : Rel σ μ n r O) : fI (cLookM μ n r x w).2 8 0 0 = (cLook σ n x w).1 ∧ ((cLook σ n x w).1 = 0 → (cLook σ n x w).2.1 = (cLookM μ n r x w).1) ∧ fL (cLookM μ n r x w).2 10 = fL μ 10 ∧ Rel (cLook σ n x w).2.2 (cLookM μ n r x w).2 n r O := by
  have hw := WFm_of h
  unfold cLook cLookM
  cases hi : gIx x n with
  | none => exact ⟨rfl, fun q => absurd (show (1 : Int32) = 0 from q) (by decide), rfl, Rel_th h⟩
  | some i =>
    have hin := gIx_lt hi (by have := h.1.1; omega)
    obtain ⟨g1, g2, g3⟩ := h.2.2.2.1 i hin
    obtain ⟨⟨a, a5, a6, a7⟩, a2, a3, a4⟩ := id g2
    simp only []
    by_cases hv : ∃ v : Nat, v ≤ 8 ∧ w = nI v
    · obtain ⟨v, hv8, rfl⟩ := hv
      rw [if_neg (nI_pos (by omega)), if_pos (show nI v ≤ 8 from (nI_leI (a := v) (b := 8) (by omega) (by decide)).mpr hv8)]
      have e1 := nd_same (μ' := uI μ 8 0 0 0) (g := i + 1) hw rfl rfl (fun _ _ => rfl) (fun _ _ => rfl) (fun _ _ => rfl)
      have e2 : mFree (uI μ 8 0 0 0) (i + 1) r = mFree μ (i + 1) r := by unfold mFree; rw [e1.1]; rfl
      have e3 := mMay_th (g := i + 1) (y := 0) hw
      rw [e1.1, e1.2, e2, e3, ← unn_eq g2 g3, ← may_eq g1 g2 g3, ← g3.1, ← g3.2, ← a3, ← a2, ← g1.2.1]
      have d : v = 0 ∨ v = 1 ∨ v = 2 ∨ v = 3 ∨ v = 4 ∨ v = 5 ∨ v = 6 ∨ v = 7 ∨ v = 8 := by omega
      rcases d with rfl | rfl | rfl | rfl | rfl | rfl | rfl | rfl | rfl
      · exact ⟨rfl, fun _ => rfl, rfl, Rel_th h⟩
      · exact ⟨rfl, fun _ => a6.trans a7.symm, rfl, Rel_th h⟩
      · exact ⟨rfl, fun _ => rfl, rfl, Rel_th h⟩
      · exact ⟨rfl, fun _ => rfl, rfl, Rel_th h⟩
      · exact ⟨rfl, fun _ => rfl, rfl, Rel_th h⟩
      · exact ⟨rfl, fun _ => rfl, rfl, Rel_th h⟩
      · exact ⟨rfl, fun _ => rfl, rfl, Rel_th h⟩
      · refine ⟨rfl, fun _ => ?_, rfl, Rel_th h⟩
        show gRisk σ i = (if fL σ 1 i 6 - fL μ 9 1 (i + 1) ≤ 0 then 0 else fL σ 1 i 6 - fL μ 9 1 (i + 1))
        unfold gRisk
        rw [a7, ← a6]
        by_cases q : fL σ 1 i 6 - fL σ 1 i 5 < 0
        · rw [if_pos q, if_pos (Int64.le_of_lt q)]
        · rw [if_neg q]
          by_cases z : fL σ 1 i 6 - fL σ 1 i 5 ≤ 0
          · rw [if_pos z]; exact Int64.le_antisymm z (Int64.not_lt.mp q)
          · rw [if_neg z]
      · exact ⟨rfl, fun _ => rfl, rfl, Rel_th h⟩
    · have ne : ∀ v : Nat, v ≤ 8 → ¬ w = nI v := fun v h1 h2 => hv ⟨v, h1, h2⟩
      simp only [if_neg (show ¬ w = 0 from ne 0 (by omega)), if_neg (show ¬ w = 1 from ne 1 (by omega)), if_neg (show ¬ w = 2 from ne 2 (by omega)), if_neg (show ¬ w = 3 from ne 3 (by omega)), if_neg (show ¬ w = 4 from ne 4 (by omega)), if_neg (show ¬ w = 5 from ne 5 (by omega)), if_neg (show ¬ w = 6 from ne 6 (by omega)), if_neg (show ¬ w = 7 from ne 7 (by omega)), if_neg (show ¬ w = 8 from ne 8 (by omega))]
      by_cases w0 : w < 0
      · rw [if_pos w0]; exact ⟨rfl, fun q => absurd (show (1 : Int32) = 0 from q) (by decide), rfl, Rel_th h⟩
      · have w8 : ¬ w ≤ 8 := fun q => by
          obtain ⟨v, hv9, rfl⟩ := nI_of w0
          exact hv ⟨v, (nI_leI (a := v) (b := 8) hv9 (by decide)).mp q, rfl⟩
        rw [if_neg w0, if_neg w8]; exact ⟨rfl, fun q => absurd (show (1 : Int32) = 0 from q) (by decide), rfl, Rel_th h⟩
theorem sum_tie {σ μ : CS} {n j : Nat} : ∀ p, Tie σ μ n j p → sumL (fL σ 6 j) p = mCov μ (j + 1) p ∧ ∃ s, s ≤ p * 1000000000 ∧ sumL (fL σ 6 j) p = lN s
  | 0, _ => ⟨rfl, 0, by omega, rfl⟩
  | p + 1, h => by
    obtain ⟨e1, s, hs, e2⟩ := sum_tie p (fun k hk => h k (by omega))
    obtain ⟨g, c, t1, t2, t3, t4, t5, t6, t7⟩ := h p (by omega)
    refine ⟨by rw [sumL, mCov, e1, t4, t5], s + c, by omega, by rw [sumL, e2, t4, lN_add]⟩
theorem op_of {σ μ : CS} {n r : Nat} {O : List Nat} {x w : Int32} (h : Rel σ μ n r O) : fI (cOfM μ r x w).2 8 0 0 = (cOf σ r x w).1 ∧ ((cOf σ r x w).1 = 0 → (cOf σ r x w).2.1 = (cOfM μ r x w).1) ∧ fL (cOfM μ r x w).2 10 = fL μ 10 ∧ Rel (cOf σ r x w).2.2 (cOfM μ r x w).2 n r O := by
  unfold cOf cOfM
  cases hi : gIx x r with
  | none => exact ⟨rfl, fun q => absurd (show (1 : Int32) = 0 from q) (by decide), rfl, Rel_th h⟩
  | some j =>
    have hjr := gIx_lt hi (by have := h.1.2.1; omega)
    obtain ⟨⟨p, hp4, p1, p2, ht⟩, r1, r2, r3, r4⟩ := h.2.2.2.2.1 j hjr
    have hpn : pN σ j = p := pN_of p1 hp4
    have hmp : mP μ (j + 1) = p := mP_of p2 hp4
    have hcov : rCov σ j = mCov μ (j + 1) p := by unfold rCov; rw [hpn]; exact (sum_tie p ht).1
    have has : ∀ v : Nat, v < 2 ^ 31 → ∀ k : Nat, k ≤ v → k < 2 ^ 30 → (pHas σ j (nI v - nI k) ↔ v - k < p) := fun v hv k hk _ => by
      unfold pHas
      rw [pk_sub hk, p1]
      constructor
      · intro q; rcases Nat.lt_or_ge (v - k) p with z | z
        · exact z
        · exact absurd (nI_le z (by omega)) q.2
      · intro q; exact ⟨nI_pos (by omega), fun z => by have := (nI_leI (a := p) (b := v - k) (by omega) (by omega)).mp z; omega⟩
    have hasn : ∀ v : Nat, v < 2 ^ 30 → ∀ k : Nat, v < k → k < 2 ^ 30 → ¬ pHas σ j (nI v - nI k) := fun v hv k hk hk2 q => q.1 (pk_sneg hk2 hk)
    simp only []
    by_cases hv : ∃ v : Nat, v < 13 ∧ w = nI v
    · obtain ⟨v, hv13, rfl⟩ := hv
      rw [if_neg (nI_pos (by omega)), if_neg (show ¬ (13 : Int32) ≤ nI v from fun q => by have := (nI_leI (a := 13) (b := v) (by decide) (by omega)).mp q; omega)]
      by_cases v5 : v < 5
      · rw [if_pos (show nI v ≤ 4 from (nI_leI (a := v) (b := 4) (by omega) (by decide)).mpr (by omega)), if_neg (show ¬ pHas σ j (nI v - 5) from hasn v (by omega) 5 (by omega) (by decide)), if_neg (show ¬ pHas σ j (nI v - 9) from hasn v (by omega) 9 (by omega) (by decide)), hcov, hmp, ← r1, ← r2, ← r3, p1, p2]
        have d : v = 0 ∨ v = 1 ∨ v = 2 ∨ v = 3 ∨ v = 4 := by omega
        rcases d with rfl | rfl | rfl | rfl | rfl
        · exact ⟨rfl, fun _ => rfl, rfl, Rel_th h⟩
        · exact ⟨rfl, fun _ => rfl, rfl, Rel_th h⟩
        · exact ⟨rfl, fun _ => rfl, rfl, Rel_th h⟩
        · exact ⟨rfl, fun _ => rfl, rfl, Rel_th h⟩
        · exact ⟨rfl, fun _ => rfl, rfl, Rel_th h⟩
      · rw [if_neg (show ¬ nI v ≤ 4 from fun q => by have := (nI_leI (a := v) (b := 4) (by omega) (by decide)).mp q; omega)]
        have ne : ∀ z : Nat, z < 5 → ¬ nI v = nI z := fun z hz q => by have := (nI_eq (by omega) (by omega)).mp q; omega
        have e5 : nI v - 5 = nI (v - 5) := pk_sub (a := v) (b := 5) (by omega)
        by_cases v9 : v < 9
        · rw [if_neg (show ¬ (9 : Int32) ≤ nI v from fun q => by have := (nI_leI (a := 9) (b := v) (by decide) (by omega)).mp q; omega), if_neg (show ¬ pHas σ j (nI v - 9) from hasn v (by omega) 9 (by omega) (by decide))]
          by_cases q : v - 5 < p
          · rw [if_pos (show pHas σ j (nI v - 5) from (has v (by omega) 5 (by omega) (by decide)).mpr q), e5, p2, if_pos ((nI_ltI (by omega) (by omega)).mpr q)]
            obtain ⟨g, c, t1, t2, t3, t4, t5, t6, t7⟩ := ht (v - 5) q
            refine ⟨rfl, fun _ => ?_, rfl, Rel_th h⟩
            show oNum σ j (nI (v - 5)) = _
            unfold oNum
            rw [nI_clamp (by omega), t1, t3]
            show (fI σ 1 g 0).toInt64 = _
            rw [(h.2.2.2.1 g t2).1.1]
          · rw [if_neg (show ¬ pHas σ j (nI v - 5) from fun z => q ((has v (by omega) 5 (by omega) (by decide)).mp z)), e5, p2, if_neg (fun z => q ((nI_ltI (by omega) (by omega)).mp z)), if_neg (show ¬ nI v = 0 from ne 0 (by omega)), if_neg (show ¬ nI v = 1 from ne 1 (by omega)), if_neg (show ¬ nI v = 2 from ne 2 (by omega)), if_neg (show ¬ nI v = 3 from ne 3 (by omega)), if_neg (show ¬ nI v = 4 from ne 4 (by omega))]
            exact ⟨rfl, fun q => absurd (show (1 : Int32) = 0 from q) (by decide), rfl, Rel_th h⟩
        · have e9 : nI v - 9 = nI (v - 9) := pk_sub (a := v) (b := 9) (by omega)
          rw [if_pos (show (9 : Int32) ≤ nI v from (nI_leI (a := 9) (b := v) (by decide) (by omega)).mpr (by omega)), if_neg (show ¬ pHas σ j (nI v - 5) from fun z => by have := (has v (by omega) 5 (by omega) (by decide)).mp z; omega)]
          by_cases q : v - 9 < p
          · rw [if_pos (show pHas σ j (nI v - 9) from (has v (by omega) 9 (by omega) (by decide)).mpr q), e9, p2, if_pos ((nI_ltI (by omega) (by omega)).mpr q)]
            obtain ⟨g, c, t1, t2, t3, t4, t5, t6, t7⟩ := ht (v - 9) q
            refine ⟨rfl, fun _ => ?_, rfl, Rel_th h⟩
            show fL σ 6 j (nI (v - 9)).toNatClampNeg = fL μ 9 17 (4 * (j + 1) + (nI (v - 9)).toNatClampNeg)
            rw [nI_clamp (by omega), t4, t5]
          · rw [if_neg (show ¬ pHas σ j (nI v - 9) from fun z => q ((has v (by omega) 9 (by omega) (by decide)).mp z)), e9, p2, if_neg (fun z => q ((nI_ltI (by omega) (by omega)).mp z)), if_neg (show ¬ nI v = 0 from ne 0 (by omega)), if_neg (show ¬ nI v = 1 from ne 1 (by omega)), if_neg (show ¬ nI v = 2 from ne 2 (by omega)), if_neg (show ¬ nI v = 3 from ne 3 (by omega)), if_neg (show ¬ nI v = 4 from ne 4 (by omega))]
            exact ⟨rfl, fun q => absurd (show (1 : Int32) = 0 from q) (by decide), rfl, Rel_th h⟩
    · have ne : ∀ v : Nat, v < 13 → ¬ w = nI v := fun v h1 h2 => hv ⟨v, h1, h2⟩
      have np : ∀ k : Nat, k ≤ 9 → ¬ pHas σ j (w - nI k) := fun k hk q => by
        obtain ⟨m, hm, e⟩ := nI_of q.1
        have hmp2 : m < p := by
          rcases Nat.lt_or_ge m p with z | z
          · exact z
          · exact absurd (by rw [p1, e]; exact nI_le z hm) q.2
        exact ne (m + k) (by omega) (by rw [← nI_add, ← e]; grind)
      simp only [if_neg (show ¬ pHas σ j (w - 5) from np 5 (by omega)), if_neg (show ¬ pHas σ j (w - 9) from np 9 (by omega)), if_neg (show ¬ w = 0 from ne 0 (by omega)), if_neg (show ¬ w = 1 from ne 1 (by omega)), if_neg (show ¬ w = 2 from ne 2 (by omega)), if_neg (show ¬ w = 3 from ne 3 (by omega)), if_neg (show ¬ w = 4 from ne 4 (by omega))]
      by_cases w0 : w < 0
      · rw [if_pos w0]; exact ⟨rfl, fun q => absurd (show (1 : Int32) = 0 from q) (by decide), rfl, Rel_th h⟩
      · have w8 : (13 : Int32) ≤ w := by
          obtain ⟨v, hv9, rfl⟩ := nI_of w0
          refine (nI_leI (a := 13) (b := v) (by decide) hv9).mpr ?_
          rcases Nat.lt_or_ge v 13 with z | z
          · exact absurd rfl (ne v z)
          · exact z
        rw [if_neg w0, if_pos w8]; exact ⟨rfl, fun q => absurd (show (1 : Int32) = 0 from q) (by decide), rfl, Rel_th h⟩
theorem how_iff {x y : Int32} (e : x = y) (h : 0 ≤ y) : (x = 0) ↔ (y ≤ 0) := by
  subst e
  exact ⟨fun q => by rw [q]; decide, fun q => Int32.le_antisymm q h⟩
theorem op_end {σ μ : CS} {n r : Nat} {O : List Nat} {x how : Int32} (h : Rel σ μ n r O) : fI (cEndM μ r x how).2 8 0 0 = (cEnd σ r x how).1 ∧ ((cEnd σ r x how).1 = 0 → (cEnd σ r x how).2.1 = (cEndM μ r x how).1) ∧ fL (cEndM μ r x how).2 10 = fL μ 10 ∧ Rel (cEnd σ r x how).2.2 (cEndM μ r x how).2 n r O := by
  unfold cEnd cEndM
  cases hi : gIx x r with
  | none => exact ⟨rfl, fun q => absurd (show (1 : Int32) = 0 from q) (by decide), rfl, Rel_th h⟩
  | some j =>
    have hjr := gIx_lt hi (by have := h.1.2.1; omega)
    obtain ⟨-, r1, r2, r3, r4⟩ := h.2.2.2.2.1 j hjr
    have hq := how_iff r3 r4
    have key : ∀ w : Int32, ¬ w = 0 → 0 ≤ w → ∀ (C : Int32 × Int32 × CS) (M : Int32 × CS), C = (if fI σ 4 j 5 = 0 then (0, 1, rGo σ j w) else (0, 0, σ)) → M = (if fI μ 9 14 (j + 1) ≤ 0 then (1, uI (uI (uI μ 8 0 0 0) 9 14 (j + 1) w) 9 15 (j + 1) 0) else (0, uI μ 8 0 0 0)) → fI M.2 8 0 0 = C.1 ∧ (C.1 = 0 → C.2.1 = M.1) ∧ fL M.2 10 = fL μ 10 ∧ Rel C.2.2 M.2 n r O := fun w w0 w1 C M hC hM => by
      by_cases q : fI σ 4 j 5 = 0
      · rw [if_pos q] at hC; rw [if_pos (hq.mp q)] at hM
        subst hC; subst hM
        exact ⟨rfl, fun _ => rfl, rfl, Rel_end (Rel_th h) hjr q w0 w1⟩
      · rw [if_neg q] at hC; rw [if_neg (fun z => q (hq.mpr z))] at hM
        subst hC; subst hM
        exact ⟨rfl, fun _ => rfl, rfl, Rel_th h⟩
    simp only []
    by_cases h1 : how = 1
    · subst h1
      rw [if_pos rfl, if_neg (by decide), if_pos (by decide)]
      exact key 1 (by decide) (by decide) _ _ rfl rfl
    · rw [if_neg h1]
      by_cases h2 : how = 2
      · subst h2
        rw [if_pos rfl, if_neg (by decide), if_pos (by decide)]
        exact key 2 (by decide) (by decide) _ _ rfl rfl
      · rw [if_neg h2]
        by_cases q : how < 1
        · rw [if_pos q]; exact ⟨rfl, fun q => absurd (show (1 : Int32) = 0 from q) (by decide), rfl, Rel_th h⟩
        · rw [if_neg q, if_neg]
          · exact ⟨rfl, fun q => absurd (show (1 : Int32) = 0 from q) (by decide), rfl, Rel_th h⟩
          · intro z
            have w0 : ¬ how < 0 := fun y => q (Int32.lt_trans y (by decide))
            obtain ⟨v, hv9, rfl⟩ := nI_of w0
            have a1 : ¬ v < 1 := fun y => q ((nI_ltI (a := v) (b := 1) hv9 (by decide)).mpr y)
            have a2 := (nI_leI (a := v) (b := 2) hv9 (by decide)).mp z
            have d : v = 1 ∨ v = 2 := by omega
            rcases d with rfl | rfl
            · exact h1 rfl
            · exact h2 rfl

/-! first -/
theorem Ch_cong {σ σ' : CS} (hg : nG σ ≤ nG σ') : ∀ (t : List Nat) (o : Option Nat), (∀ i ∈ t, fR σ' 1 i 10 = fR σ 1 i 10) → Ch σ o t → Ch σ' o t
  | [], _, _, h => h
  | i :: t, o, hm, h => ⟨h.1, Nat.lt_of_lt_of_le h.2.1 hg, by rw [hm i List.mem_cons_self]; exact Ch_cong hg t _ (fun x hx => hm x (List.mem_cons_of_mem _ hx)) h.2.2⟩
theorem Ch_cut {σ σ' : CS} {b g : Nat} {B : List Nat} (hg : nG σ' = nG σ) (hb : fR σ' 1 b 10 = fR σ 1 g 10) (hB : ∀ i ∈ B, fR σ' 1 i 10 = fR σ 1 i 10) : ∀ (A : List Nat) (o : Option Nat), (∀ i ∈ A, fR σ' 1 i 10 = fR σ 1 i 10) → Ch σ o (A ++ b :: g :: B) → Ch σ' o (A ++ b :: B)
  | [], o, _, h => ⟨h.1, by rw [hg]; exact h.2.1, by rw [hb]; exact Ch_cong (by rw [hg]; exact Nat.le_refl _) B _ hB h.2.2.2.2⟩
  | a :: A, o, hm, h => ⟨h.1, by rw [hg]; exact h.2.1, by rw [hm a List.mem_cons_self]; exact Ch_cut hg hb hB A _ (fun x hx => hm x (List.mem_cons_of_mem _ hx)) h.2.2⟩
theorem Ch_snoc {σ σ' : CS} {g : Nat} (hg : nG σ ≤ nG σ') (hgn : g < nG σ') (hn : fR σ' 1 g 10 = none) : ∀ (t : List Nat) (z : Nat) (o : Option Nat), (∀ i ∈ t, fR σ' 1 i 10 = fR σ 1 i 10) → fR σ' 1 z 10 = some g → Ch σ o (t ++ [z]) → Ch σ' o (t ++ [z, g])
  | [], z, o, _, hz, h => ⟨h.1, Nat.lt_of_lt_of_le h.2.1 hg, hz, hgn, hn⟩
  | a :: t, z, o, hm, hz, h => ⟨h.1, Nat.lt_of_lt_of_le h.2.1 hg, by rw [hm a List.mem_cons_self]; exact Ch_snoc hg hgn hn t z _ (fun x hx => hm x (List.mem_cons_of_mem _ hx)) hz h.2.2⟩
theorem uI_self {μ : CS} {k i f : Nat} {v : Int32} (h : fI μ k i f = v) : uI μ k i f v = μ := by
  have e : up3 (fI μ) k i f v = fI μ := by
    funext k' i' f'
    rw [up3_val]
    split
    · rename_i q
      obtain ⟨rfl, rfl, rfl⟩ := q
      exact h.symm
    · rfl
  unfold uI
  rw [e]
  rfl
theorem sh_11 : ∀ (k : Nat) (τ : CS) (j : Nat), fI (mShift k τ) 9 11 j = if 1 ≤ j ∧ j ≤ k then fI τ 9 11 (j - 1) else fI τ 9 11 j
  | 0, τ, j => by rw [mShift, if_neg (by omega)]
  | k + 1, τ, j => by
    rw [mShift, sh_11 k]
    have e : ∀ q, fI (uI τ 9 11 (k + 1) (fI τ 9 11 k)) 9 11 q = if q = k + 1 then fI τ 9 11 k else fI τ 9 11 q := fun q => by
      rw [fI_uI, up3_at]
      by_cases z : q = k + 1
      · subst z; rw [va_up_self, if_pos rfl]
      · rw [up_ne z, if_neg z]
    by_cases h1 : 1 ≤ j ∧ j ≤ k
    · rw [if_pos h1, if_pos (by omega), e, if_neg (by omega)]
    · rw [if_neg h1, e]
      by_cases h2 : j = k + 1
      · rw [if_pos h2, if_pos (by omega), h2]; rfl
      · rw [if_neg h2, if_neg (by omega)]
theorem sh_I {i : Nat} (hi : i ≠ 11) : ∀ (k : Nat) (τ : CS), fI (mShift k τ) 9 i = fI τ 9 i
  | 0, _ => rfl
  | k + 1, τ => by
    rw [mShift, sh_I hi k]
    funext q
    rw [fI_uI, up3_ne _ _ _ (fun z => hi z.2)]
theorem sh_L : ∀ (k : Nat) (τ : CS), fL (mShift k τ) = fL τ
  | 0, _ => rfl
  | k + 1, τ => (sh_L k _).trans rfl
theorem any_filter {σ μ : CS} {n g h : Nat} (hG : ∀ a, a < n → GS σ μ a) (hg : g < n) (hh : fI σ 1 g 1 = nI h) : ∀ A : List Nat, (∀ a ∈ A, a < n) → (mAny μ g A = true ↔ A.filter (hold σ h) ≠ [])
  | [], _ => by simp [mAny]
  | a :: A, hm => by
    have e : (fI μ 9 0 (a + 1) = fI μ 9 0 (g + 1)) ↔ hold σ h a = true := by
      rw [hold_iff (hG a (hm a List.mem_cons_self)), ← (hG g hg).2.1, hh]
    have ih := any_filter hG hg hh A (fun x hx => hm x (List.mem_cons_of_mem _ hx))
    have e2 : mAny μ g (a :: A) = (decide (fI μ 9 0 (a + 1) = fI μ 9 0 (g + 1)) || mAny μ g A) := rfl
    rw [e2]
    by_cases q : hold σ h a = true
    · rw [List.filter_cons_of_pos q, decide_eq_true (e.mpr q)]
      simp
    · rw [List.filter_cons_of_neg q, decide_eq_false (fun z => q (e.mp z)), Bool.false_or]
      exact ih
theorem split_at {O : List Nat} {g : Nat} (h : g ∈ O) (hn : O.Nodup) : ∃ A B, O = A ++ g :: B ∧ g ∉ A := by
  obtain ⟨A, B, e⟩ := List.append_of_mem h
  refine ⟨A, B, e, fun q => ?_⟩
  rw [e, List.nodup_append] at hn
  exact hn.2.2 g q g List.mem_cons_self rfl
theorem Rel_first {σ μ : CS} {n r h b g : Nat} {A B A' : List Nat} (hr : Rel σ μ n r (A ++ g :: B)) (hgn : g < n) (hh : fI σ 1 g 1 = nI h) (hh8 : h < 8) (hA : A.filter (hold σ h) = A' ++ [b]) : Rel (pFirst σ h b g) (uI (mShift A.length μ) 9 11 0 (nI (g + 1))) n r (g :: (A ++ B)) := by
  have hw := WFm_of hr
  obtain ⟨hB, hR, hO, hG, hRR, hD, hL, hM⟩ := hr
  obtain ⟨o1, o2, o3, o4⟩ := hO
  have hnd : (A ++ g :: B).Nodup := o2
  have hgA : g ∉ A := fun q => by rw [List.nodup_append] at hnd; exact hnd.2.2 g q g List.mem_cons_self rfl
  have hgB : g ∉ B := fun q => by rw [List.nodup_append] at hnd; exact (List.nodup_cons.mp hnd.2.1).1 q
  have hgh : hold σ h g = true := by unfold hold; rw [hh]; simp
  have hf : (A ++ g :: B).filter (hold σ h) = A' ++ b :: g :: B.filter (hold σ h) := by
    rw [List.filter_append, hA, List.filter_cons_of_pos hgh]; simp
  have hbA : b ∈ A.filter (hold σ h) := by rw [hA]; simp
  have hbh : hold σ h b = true := (List.mem_filter.mp hbA).2
  have hbn : b < n := O_lt o1 (List.mem_append_left _ (List.mem_filter.mp hbA).1)
  have hch := o4 h hh8
  rw [hf] at hch
  have hnf : (A' ++ b :: g :: B.filter (hold σ h)).Nodup := by rw [← hf]; exact hnd.filter _
  have hbg : b ≠ g := fun e => hgA (by rw [← e]; exact (List.mem_filter.mp hbA).1)
  have mI : ∀ f, f ≠ 11 → fI (uI (mShift A.length μ) 9 11 0 (nI (g + 1))) 9 f = fI μ 9 f := fun f hf => by
    funext q
    rw [fI_uI, up3_ne _ _ _ (fun z => hf z.2), sh_I hf]
  have mL : fL (uI (mShift A.length μ) 9 11 0 (nI (g + 1))) = fL μ := sh_L _ _
  have m8 : fI (uI (mShift A.length μ) 9 11 0 (nI (g + 1))) 8 = fI μ 8 := mShift_8 _ _
  have R1 : ∀ i, i ≠ b → i ≠ g → fR (pFirst σ h b g) 1 i 10 = fR σ 1 i 10 := fun i hib hig => by
    unfold pFirst; simp [fR_uR, up3_val, hib, hig]
  have R1g : fR (pFirst σ h b g) 1 g 10 = fR σ 7 1 h := by
    unfold pFirst; simp [fR_uR, up3_val]
  have R1b : fR (pFirst σ h b g) 1 b 10 = fR σ 1 g 10 := by
    unfold pFirst; simp [fR_uR, up3_val, hbg]
  have R7 : fR (pFirst σ h b g) 7 1 h = some g := by unfold pFirst; simp [fR_uR, up3_val]
  have R7' : ∀ x, x ≠ h → fR (pFirst σ h b g) 7 1 x = fR σ 7 1 x := fun x hx => by unfold pFirst; simp [fR_uR, up3_val, hx]
  refine ⟨?_, ?_, ⟨⟨?_, fun k x hx => ?_⟩, ?_, fun x hx => ?_, fun x hx => ?_⟩, fun i hi => ?_, fun j hj => ?_, ?_, ?_, ?_⟩
  · unfold BB at *
    rw [m8, mI 18 (by decide), mI 19 (by decide)]
    exact hB
  · intro k i j x e
    have e' : up3 (up3 (up3 (fR σ) 1 b 10 (fR σ 1 g 10)) 1 g 10 (fR σ 7 1 h)) 7 1 h (some g) k i j = some x := e
    rw [up3_val, up3_val, up3_val] at e'
    show (if k = 0 ∨ (k = 7 ∧ i = 2) then x < nR σ else x < nG σ)
    split at e'
    · rename_i q
      cases e'
      rw [if_neg (by omega), hB.2.2.1]
      exact hgn
    · split at e'
      · rename_i q
        rw [if_neg (by omega)]
        exact rg_1 hR (k := 7) (i := 1) (by omega) e'
      · split at e'
        · rename_i q
          rw [if_neg (by omega)]
          exact rg_1 hR (k := 1) (i := g) (by omega) e'
        · exact hR k i j x e'
  · have := o1.1
    simp only [List.length_cons, List.length_append] at this ⊢
    omega
  · cases k with
    | zero =>
      simp only [List.getElem?_cons_zero, Option.some.injEq] at hx
      subst hx
      refine ⟨hgn, ?_⟩
      rw [fI_uI, up3_at, va_up_self]
    | succ k =>
      simp only [List.getElem?_cons_succ] at hx
      have e11 : fI (uI (mShift A.length μ) 9 11 0 (nI (g + 1))) 9 11 (k + 1) = if k + 1 ≤ A.length then fI μ 9 11 k else fI μ 9 11 (k + 1) := by
        rw [fI_uI, up3_at, up_ne (by omega), sh_11]
        by_cases q : k + 1 ≤ A.length
        · rw [if_pos ⟨by omega, q⟩, if_pos q]; rfl
        · rw [if_neg (fun z => q z.2), if_neg q]
      rw [e11]
      by_cases q : k + 1 ≤ A.length
      · rw [if_pos q]
        rw [List.getElem?_append_left (by omega)] at hx
        exact o1.2 k x (by rw [List.getElem?_append_left (by omega)]; exact hx)
      · rw [if_neg q]
        rw [List.getElem?_append_right (by omega)] at hx
        refine o1.2 (k + 1) x ?_
        rw [List.getElem?_append_right (by omega), show k + 1 - A.length = (k - A.length) + 1 by omega, List.getElem?_cons_succ]
        exact hx
  · rw [List.nodup_cons]
    refine ⟨fun q => ?_, ?_⟩
    · rcases List.mem_append.mp q with z | z
      · exact hgA z
      · exact hgB z
    · rw [List.nodup_append] at hnd ⊢
      exact ⟨hnd.1, (List.nodup_cons.mp hnd.2.1).2, fun a ha c hc => hnd.2.2 a ha c (List.mem_cons_of_mem _ hc)⟩
  · have := o3 x hx
    simp only [List.mem_append, List.mem_cons] at this ⊢
    rcases this with z | z | z
    · exact Or.inr (Or.inl z)
    · exact Or.inl z
    · exact Or.inr (Or.inr z)
  · have eh : hold (pFirst σ h b g) x = hold σ x := rfl
    rw [eh]
    by_cases e : x = h
    · subst e
      rw [List.filter_cons_of_pos hgh, List.filter_append, hA, R7]
      refine ⟨rfl, by show g < nG σ; rw [hB.2.2.1]; exact hgn, ?_⟩
      rw [R1g, show A' ++ [b] ++ B.filter (hold σ x) = A' ++ b :: B.filter (hold σ x) by simp]
      have hnf2 := hnf
      rw [List.nodup_append] at hnf2
      refine Ch_cut (σ := σ) (σ' := pFirst σ x b g) rfl R1b (fun i hi => R1 i (fun z => ?_) (fun z => ?_)) A' _ (fun i hi => R1 i (fun z => ?_) (fun z => ?_)) hch
      · subst z
        exact (List.nodup_cons.mp hnf2.2.1).1 (List.mem_cons_of_mem _ hi)
      · subst z
        exact (List.nodup_cons.mp (List.nodup_cons.mp hnf2.2.1).2).1 hi
      · subst z
        exact hnf2.2.2 i hi i List.mem_cons_self rfl
      · subst z
        exact hnf2.2.2 i hi i (List.mem_cons_of_mem _ List.mem_cons_self) rfl
    · have hgx : ¬ hold σ x g = true := fun q => e (by
        unfold hold at q
        have q := of_decide_eq_true q
        rw [hh] at q
        exact ((nI_eq (by omega) (by omega)).mp q).symm)
      have hbx : ¬ hold σ x b = true := fun q => e (by
        unfold hold at q hbh
        have q := of_decide_eq_true q
        have w := of_decide_eq_true hbh
        exact (nI_eq (by omega) (by omega)).mp (q.symm.trans w))
      have hfx : (g :: (A ++ B)).filter (hold σ x) = (A ++ g :: B).filter (hold σ x) := by
        rw [List.filter_cons_of_neg hgx, List.filter_append, List.filter_append, List.filter_cons_of_neg hgx]
      rw [hfx, R7' x e]
      refine Ch_cong (σ := σ) (σ' := pFirst σ h b g) (Nat.le_refl _) _ _ (fun i hi => R1 i (fun z => ?_) (fun z => ?_)) (o4 x hx)
      · subst z; exact hbx (List.mem_filter.mp hi).2
      · subst z; exact hgx (List.mem_filter.mp hi).2
  · obtain ⟨g1, g2, g3⟩ := hG i hi
    refine ⟨GS_of g1 rfl rfl rfl rfl rfl (by rw [mI 0 (by decide)]) (by rw [mI 4 (by decide)]) (by rw [mI 2 (by decide)]) (by rw [mI 3 (by decide)]) (by rw [mI 5 (by decide)]), GM_of g2 rfl rfl rfl rfl rfl (by rw [mL]) (by rw [mL]) (by rw [mL]) (by rw [mI 6 (by decide)]) (by rw [mI 7 (by decide)]) (by rw [mI 10 (by decide)]) (by rw [mI 5 (by decide)]) (by rw [m8]), ?_⟩
    have e := nd_same (μ' := uI (mShift A.length μ) 9 11 0 (nI (g + 1))) (g := i + 1) hw (by rw [mI 2 (by decide)]) (by rw [mI 3 (by decide)]) (fun _ _ => by rw [mI 15 (by decide)]) (fun _ _ => by rw [mI 16 (by decide)]) (fun _ _ => by rw [mL])
    unfold GU at *
    rw [e.1, e.2]
    exact g3
  · refine RR_of (hRR j hj) (Nat.le_refl _) rfl rfl ?_ rfl (by rw [mI 15 (by decide)]) (by rw [mI 12 (by decide)]) (by rw [mI 14 (by decide)]) (by rw [mL]) (fun _ _ => by rw [mI 16 (by decide)]) (fun _ _ => by rw [mL])
    unfold pFirst; funext q; simp [fR_uR, up3_val]
  · unfold DD at *
    rw [show fR (pFirst σ h b g) 5 = fR σ 5 from rfl]
    exact hD
  · exact hL.trans (mLive_of (ν := uI (mShift A.length μ) 9 11 0 (nI (g + 1))) (μ := μ) r (fun _ _ _ => by rw [mI 14 (by decide)])).symm
  · unfold MM at *
    rw [mI 14 (by decide), mI 6 (by decide), mI 15 (by decide), mL]
    exact hM
theorem hall_of {σ μ : CS} {n r : Nat} {O : List Nat} (h : Rel σ μ n r O) : ∀ g, g < n → ∃ A B, O = A ++ g :: B ∧ g ∉ A := fun g hg => split_at (h.2.2.1.2.2.1 g hg) h.2.2.1.2.1
theorem op_first {σ μ : CS} {n r : Nat} {O : List Nat} {x : Int32} (h : Rel σ μ n r O) : (cFirst σ n (fun k => O.filter (hold σ k)) x).1 = (cFirstM μ n O x).1 ∧ ∃ O', Rel (cFirst σ n (fun k => O.filter (hold σ k)) x).2 (cFirstM μ n O x).2 n r O' := by
  unfold cFirst cFirstM
  cases hi : gIx x n with
  | none => exact ⟨rfl, O, Rel_th h⟩
  | some g =>
    have hgn := gIx_lt hi (by have := h.1.1; omega)
    obtain ⟨hN, hh8, hh⟩ := (h.2.2.2.1 g hgn).1.2.2.1
    obtain ⟨A, B, e, hgA⟩ := hall_of h g hgn
    have hO := h.2.2.1
    have htw : O.takeWhile (fun a => a != g) = A := by rw [e]; exact tw_pre hgA
    have hlt : ∀ a ∈ A, a < n := fun a ha => O_lt hO.1 (by rw [e]; exact List.mem_append_left _ ha)
    have hany := any_filter (fun a ha => (h.2.2.2.1 a ha).1) hgn hh A hlt
    have hgh : hold σ hN g = true := by unfold hold; rw [hh]; simp
    have hf : O.filter (hold σ hN) = A.filter (hold σ hN) ++ g :: B.filter (hold σ hN) := by
      rw [e, List.filter_append, List.filter_cons_of_pos hgh]
    have hch := hO.2.2.2 hN hh8
    rw [hf] at hch
    simp only []
    rw [htw, hh, nI_clamp (by omega)]
    unfold cFirM
    rcases ls_snoc (A.filter (hold σ hN)) with q | ⟨A', b, q⟩
    · rw [q, List.nil_append] at hch
      rw [if_pos hch.1, if_neg (fun z => (hany.mp z) q)]
      refine ⟨rfl, O, ?_⟩
      have e11 : fI (uI μ 8 0 0 0) 9 11 A.length = nI (g + 1) := (hO.1.2 A.length g (by rw [e]; exact ap_at0)).2
      show Rel σ (uI (uI μ 8 0 0 0) 9 11 A.length (nI (g + 1))) n r O
      rw [uI_self e11]
      exact Rel_th h
    · have hnd : (A.filter (hold σ hN) ++ g :: B.filter (hold σ hN)).Nodup := by rw [← hf]; exact hO.2.1.filter _
      have hgA2 : g ∉ A.filter (hold σ hN) := fun z => hgA (List.mem_filter.mp z).1
      rw [if_pos (hany.mpr (by rw [q]; simp)), if_neg]
      · refine ⟨rfl, g :: (A ++ B), ?_⟩
        have hp : prd (O.filter (hold σ hN)) g = b := by
          rw [hf, q, List.append_assoc]
          exact prd_of (by rw [← q]; exact hgA2)
        rw [hp]
        exact Rel_first (by rw [← e]; exact Rel_th h) hgn hh hh8 q
      · intro z
        rw [q, List.append_assoc] at hch
        obtain ⟨y, hy, -, hym⟩ := Ch_ne A' b _ _ hch
        have : y = g := Option.some.inj (hy.symm.trans z)
        subst this
        exact hgA2 (by rw [q]; rcases hym with w | w <;> simp [w])

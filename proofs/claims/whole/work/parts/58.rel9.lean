/-! guarantee -/
theorem good_iff {a : Int64} {u d rt : Int32} : mGood a u d rt ↔ pCent a ∧ pShare u d ∧ ¬ rt < 0 ∧ rt ≤ 1000 := by
  have a0 : (0 : Int64).toInt = 0 := rfl
  have a1 : (1 : Int64).toInt = 1 := rfl
  have a2 : (100 : Int64).toInt = 100 := rfl
  have a3 : (1000 : Int64).toInt = 1000 := rfl
  have b0 : (0 : Int32).toInt = 0 := rfl
  have b1 : (1 : Int32).toInt = 1 := rfl
  have b2 : (100 : Int32).toInt = 100 := rfl
  have b3 : (1000 : Int32).toInt = 1000 := rfl
  simp only [mGood, pIn, pCent, pShare, Int64.lt_iff_toInt_lt, Int32.lt_iff_toInt_lt, Int32.le_iff_toInt_le, Int32.toInt_toInt64, a0, a2, a3, b0, b1, b2, b3]
  omega
theorem mNd_no {μ : CS} {n r g : Nat} (hw : WFm μ n r) (hg : n < g) (hg2 : g < 100) : ∀ s, s ≤ r → mNd μ g s = 0 ∧ mUs μ g s = 0
  | 0, _ => ⟨rfl, rfl⟩
  | s + 1, hs => by
    have key : ∀ k, k ≤ mP μ (s + 1) → mNdI μ g (s + 1) 0 k = 0 ∧ mUsI μ g (s + 1) 0 k = 0 := fun k => by
      induction k with
      | zero => exact fun _ => ⟨rfl, rfl⟩
      | succ k ih =>
        intro hk
        obtain ⟨i1, i2⟩ := ih (by omega)
        obtain ⟨g', h1, h2, h3⟩ := hw.2.2.2.2.2.2.1 (s + 1) k (by omega) hs (by omega)
        have hne : ¬ nI g' = nI g := fun q => by have := hw.1; have := (nI_eq (a := g') (b := g) (by omega) (by omega)).mp q; omega
        rw [mNdI, mUsI, i1, i2, h3, if_neg hne, if_neg hne]
        exact ⟨rfl, rfl⟩
    obtain ⟨i1, i2⟩ := mNd_no hw hg hg2 s (by omega)
    rw [mNd, mUs, i1, i2]
    exact key _ (Nat.le_refl _)
theorem pl_I {σ : CS} {h g : Nat} {L : List Nat} : fI (pLast σ h g L) = fI σ := by unfold pLast; split <;> rfl
theorem pl_L {σ : CS} {h g : Nat} {L : List Nat} : fL (pLast σ h g L) = fL σ := by unfold pLast; split <;> rfl
theorem pl_G {σ : CS} {h g : Nat} {L : List Nat} : nG (pLast σ h g L) = nG σ := by unfold pLast; split <;> rfl
theorem pl_N {σ : CS} {h g : Nat} {L : List Nat} : nR (pLast σ h g L) = nR σ := by unfold pLast; split <;> rfl
theorem pl_R {σ : CS} {h g : Nat} {L : List Nat} {k i : Nat} (h1 : k ≠ 1) (h2 : ¬ (k = 7 ∧ i = 1)) : fR (pLast σ h g L) k i = fR σ k i := by
  unfold pLast
  split
  · rw [fR_uR, up3_ne _ _ _ h2]
  · rw [fR_uR, up3_ne _ _ _ (fun q => h1 q.1)]
def gMk (σ : CS) (n hN u d : Nat) (one rt : Int32) (a : Nat) : CS := uI (uR (gNew σ n (nI (n + 1)) (nI hN) (nI u) (nI d) one rt (fI σ 0 0 9) (lN a)) 7 0 n (some n)) 0 0 6 (nI (n + 1))
theorem gk_I {σ : CS} {n hN u d a : Nat} {one rt : Int32} {k i : Nat} (h0 : k ≠ 0) (hc : i ≠ n ∨ 3 < k) : fI (gMk σ n hN u d one rt a) k i = fI σ k i := by
  unfold gMk
  rw [fI_uI, up3_ne _ _ _ (fun q => h0 q.1), fI_uR]
  show (if i = n ∧ k = 1 then _ else if i = n ∧ k = 2 then _ else if i = n ∧ k = 3 then _ else _) = _
  rw [if_neg (by omega), if_neg (by omega), if_neg (by omega)]
theorem gk_0 {σ : CS} {n hN u d a : Nat} {one rt : Int32} {i f : Nat} (hf : f ≠ 6) : fI (gMk σ n hN u d one rt a) 0 i f = fI σ 0 i f := by
  unfold gMk
  rw [fI_uI, up3_val, if_neg (fun q => hf q.2.2), fI_uR]
  refine congrFun (show (if i = n ∧ 0 = 1 then _ else if i = n ∧ 0 = 2 then _ else if i = n ∧ 0 = 3 then _ else _) = _ from ?_) f
  rw [if_neg (by omega), if_neg (by omega), if_neg (by omega)]
theorem gk_L {σ : CS} {n hN u d a : Nat} {one rt : Int32} {k i : Nat} (hc : i ≠ n ∨ (k ≠ 1 ∧ k ≠ 3)) : fL (gMk σ n hN u d one rt a) k i = fL σ k i := by
  show (if i = n ∧ k = 1 then _ else if i = n ∧ k = 3 then _ else _) = _
  rw [if_neg (by omega), if_neg (by omega)]
theorem gk_R {σ : CS} {n hN u d a : Nat} {one rt : Int32} {k i : Nat} (hc : i ≠ n ∨ k ≠ 1) (h7 : ¬ (k = 7 ∧ i = 0)) : fR (gMk σ n hN u d one rt a) k i = fR σ k i := by
  unfold gMk
  rw [fR_uI, fR_uR, up3_ne _ _ _ h7]
  show (if i = n ∧ k = 1 then _ else _) = _
  rw [if_neg (by omega)]
theorem gk_70 {σ : CS} {n hN u d a : Nat} {one rt : Int32} {i : Nat} : fR (gMk σ n hN u d one rt a) 7 0 i = if i = n then some n else fR σ 7 0 i := by
  unfold gMk
  rw [fR_uI, fR_uR, up3_val]
  by_cases e : i = n
  · rw [if_pos ⟨rfl, rfl, e⟩, if_pos e]
  · rw [if_neg (fun q => e q.2.2), if_neg e]
    show (if 0 = n ∧ 7 = 1 then (fun _ => none) else fR σ 7 0) i = _
    rw [if_neg (by omega)]
theorem gk_n {σ : CS} {n hN u d a : Nat} {one rt : Int32} : fI (gMk σ n hN u d one rt a) 1 n = (fun j => if j = 0 then nI (n + 1) else if j = 1 then nI hN else if j = 3 then one else 0) ∧ fI (gMk σ n hN u d one rt a) 2 n = (fun j => if j = 0 then nI u else nI d) ∧ fI (gMk σ n hN u d one rt a) 3 n = (fun j => if j = 0 then rt else if j = 2 then fI σ 0 0 9 else 0) ∧ fL (gMk σ n hN u d one rt a) 1 n = (fun j => if j = 5 then lN a else 0) ∧ fL (gMk σ n hN u d one rt a) 3 n = (fun _ => 0) ∧ fR (gMk σ n hN u d one rt a) 1 n = (fun _ => none) := by
  have e : ∀ k, k ≠ 0 → fI (gMk σ n hN u d one rt a) k n = fI (gNew σ n (nI (n + 1)) (nI hN) (nI u) (nI d) one rt (fI σ 0 0 9) (lN a)) k n := fun k hk => by
    unfold gMk
    rw [fI_uI, up3_ne _ _ _ (fun q => hk q.1), fI_uR]
  rw [e 1 (by decide), e 2 (by decide), e 3 (by decide)]
  refine ⟨?_, ?_, ?_, ?_, ?_, ?_⟩
  · show (if n = n ∧ 1 = 1 then _ else _) = _
    rw [if_pos ⟨rfl, rfl⟩]
  · show (if n = n ∧ 2 = 1 then _ else if n = n ∧ 2 = 2 then _ else _) = _
    rw [if_neg (by omega), if_pos ⟨rfl, rfl⟩]
  · show (if n = n ∧ 3 = 1 then _ else if n = n ∧ 3 = 2 then _ else if n = n ∧ 3 = 3 then _ else _) = _
    rw [if_neg (by omega), if_neg (by omega), if_pos ⟨rfl, rfl⟩]
  · show (if n = n ∧ 1 = 1 then _ else _) = _
    rw [if_pos ⟨rfl, rfl⟩]
  · show (if n = n ∧ 3 = 1 then _ else if n = n ∧ 3 = 3 then _ else _) = _
    rw [if_neg (by omega), if_pos ⟨rfl, rfl⟩]
  · show up3 (fR (gNew σ n (nI (n + 1)) (nI hN) (nI u) (nI d) one rt (fI σ 0 0 9) (lN a))) 7 0 n (some n) 1 n = _
    rw [up3_ne _ _ _ (by omega)]
    show (if n = n ∧ 1 = 1 then _ else _) = _
    rw [if_pos ⟨rfl, rfl⟩]
theorem Rel_guar {σ μ : CS} {n r : Nat} {O : List Nat} {hN u d a : Nat} {one rt : Int32} (h : Rel σ μ n r O) (hn : n < 20) (hh : hN < 8) (hu : u ≤ d) (hd : 1 ≤ d) (hd2 : d ≤ 100) (ha : a ≤ 1000000000) :
    Rel (pLast (gMk σ n hN u d one rt a) hN n (O.filter (hold σ hN))) (dGuar μ n (nI hN) (lN a) (nI u) (nI d) one rt) (n + 1) r (O ++ [n]) := by
  have hw := WFm_of h
  obtain ⟨hB, hR, hO, hG, hRR, hD, hL, hM⟩ := h
  obtain ⟨b1, b2, b3, b4, b5, b6, b7, b8, b9, b10, b11, b12, b13⟩ := hB
  obtain ⟨o1, o2, o3, o4⟩ := hO
  obtain ⟨k1, k2, k3, k4, k5, k6⟩ := gk_n (σ := σ) (n := n) (hN := hN) (u := u) (d := d) (a := a) (one := one) (rt := rt)
  have hlt : ∀ g ∈ O, g < n := fun g hg => O_lt o1 hg
  have hhold : ∀ x g, g < n → hold (pLast (gMk σ n hN u d one rt a) hN n (O.filter (hold σ hN))) x g = hold σ x g := fun x g hg => by
    unfold hold; rw [pl_I, gk_I (by decide) (Or.inl (by omega))]
  have hholdn : ∀ x, x < 8 → (hold (pLast (gMk σ n hN u d one rt a) hN n (O.filter (hold σ hN))) x n = true ↔ x = hN) := fun x hx => by
    unfold hold
    rw [pl_I, k1]
    simp only [decide_eq_true_eq]
    exact ⟨fun q => ((nI_eq (by omega) (by omega)).mp q).symm, fun q => by rw [q]; rfl⟩
  have hfil : ∀ x, O.filter (hold (pLast (gMk σ n hN u d one rt a) hN n (O.filter (hold σ hN))) x) = O.filter (hold σ x) := fun x => List.filter_congr (fun g hg => hhold x g (hlt g hg))
  have m2 : ∀ q, q ≠ n + 1 → ∀ i, i = 0 ∨ i = 2 ∨ i = 3 ∨ i = 4 ∨ i = 5 ∨ i = 10 → fI (dGuar μ n (nI hN) (lN a) (nI u) (nI d) one rt) 9 i q = fI μ 9 i q := fun q hq i hi => by
    rcases hi with rfl | rfl | rfl | rfl | rfl | rfl <;> simp [dGuar, dG0, fI_uI, fI_uL, up3_val, hq]
  have m1 : ∀ q, q ≠ n + 1 → fL (dGuar μ n (nI hN) (lN a) (nI u) (nI d) one rt) 9 1 q = fL μ 9 1 q := fun q hq => by
    simp [dGuar, dG0, fL_uI, fL_uL, up3_val, hq]
  have mI : ∀ i, i = 6 ∨ i = 7 ∨ i = 12 ∨ i = 14 ∨ i = 15 ∨ i = 16 ∨ i = 18 ∨ i = 19 → fI (dGuar μ n (nI hN) (lN a) (nI u) (nI d) one rt) 9 i = fI μ 9 i := fun i hi => by
    rcases hi with rfl | rfl | rfl | rfl | rfl | rfl | rfl | rfl <;> rfl
  have mL : ∀ i, i ≠ 1 → fL (dGuar μ n (nI hN) (lN a) (nI u) (nI d) one rt) 9 i = fL μ 9 i := fun i hi => by
    unfold dGuar dG0
    simp only [fL_uI, fL_uL]
    rw [up3_ne _ _ _ (fun z => hi z.2)]
  have mt : fI (dGuar μ n (nI hN) (lN a) (nI u) (nI d) one rt) 8 0 2 = fI μ 8 0 2 := rfl
  have m11 : ∀ q, fI (dGuar μ n (nI hN) (lN a) (nI u) (nI d) one rt) 9 11 q = if q = n then nI (n + 1) else fI μ 9 11 q := fun q => by
    by_cases e : q = n <;> simp [dGuar, dG0, fI_uI, fI_uL, up3_val, e, nI_1]
  refine ⟨?_, ?_, ?_, fun i hi => ?_, fun j hj => ?_, ?_, ?_, ?_⟩
  · refine ⟨by omega, b2, by rw [pl_G]; rfl, by rw [pl_N]; exact b4, by rw [pl_I]; rfl, by rw [pl_I, gk_0 (by decide)]; exact b6, ?_, b8, by rw [pl_I, gk_0 (by decide)]; exact b9, by rw [pl_R (by decide) (by omega), gk_R (Or.inr (by decide)) (by omega)]; exact b10, fun i hi => ?_, fun j hj => ?_, fun e he => ?_⟩
    · show nI n + 1 = nI (n + 1)
      exact nI_1 n
    · rw [pl_R (by decide) (by omega), gk_70]
      by_cases e : i = n
      · rw [if_pos e, e]
      · rw [if_neg e]; exact b11 i (by omega)
    · rw [pl_R (by decide) (by omega), gk_R (Or.inr (by decide)) (by omega)]; exact b12 j hj
    · rw [pl_I, gk_I (by decide) (Or.inr (by decide)), gk_I (by decide) (Or.inr (by decide)), mI 18 (by simp), mI 19 (by simp)]
      exact b13 e he
  · intro k i j g e
    have base : ∀ k i j g, fR (gMk σ n hN u d one rt a) k i j = some g → (if k = 0 ∨ (k = 7 ∧ i = 2) then g < nR σ else g < n + 1) := fun k i j g e => by
      by_cases c1 : i = n ∧ k = 1
      · obtain ⟨rfl, rfl⟩ := c1
        rw [k6] at e
        exact absurd e (by simp)
      · by_cases c2 : k = 7 ∧ i = 0
        · obtain ⟨rfl, rfl⟩ := c2
          rw [gk_70] at e
          rw [if_neg (by omega)]
          by_cases z : j = n
          · rw [if_pos z] at e; cases e; omega
          · rw [if_neg z] at e
            have := rg_1 hR (by omega) e
            omega
        · rw [gk_R (by omega) c2] at e
          have := hR k i j g e
          split at this
          · rw [if_pos (by assumption)]; exact this
          · rw [if_neg (by assumption)]; omega
    rw [pl_N, pl_G]
    show (if k = 0 ∨ (k = 7 ∧ i = 2) then g < nR σ else g < n + 1)
    unfold pLast at e
    split at e
    · rw [fR_uR, up3_val] at e
      split at e
      · rename_i q
        cases e
        rw [if_neg (by omega)]
        omega
      · exact base k i j g e
    · rw [fR_uR, up3_val] at e
      split at e
      · rename_i q
        cases e
        rw [if_neg (by omega)]
        omega
      · exact base k i j g e
  · refine ⟨⟨by rw [List.length_append, o1.1]; rfl, fun k g hk => ?_⟩, ?_, fun g hg => ?_, fun x hx => ?_⟩
    · rw [m11]
      by_cases e : k < n
      · rw [List.getElem?_append_left (by rw [o1.1]; exact e)] at hk
        obtain ⟨z1, z2⟩ := o1.2 k g hk
        rw [if_neg (by omega)]
        exact ⟨by omega, z2⟩
      · rw [List.getElem?_append_right (by rw [o1.1]; omega), o1.1] at hk
        have hkn : k - n = 0 := by
          rcases Nat.eq_zero_or_pos (k - n) with z | z
          · exact z
          · rw [List.getElem?_eq_none (by simp; omega)] at hk; cases hk
        rw [hkn] at hk
        have : g = n := (Option.some.inj hk).symm
        subst this
        rw [if_pos (by omega)]
        exact ⟨by omega, rfl⟩
    · rw [List.nodup_append]
      exact ⟨o2, by simp, fun x hx y hy => by simp at hy; subst hy; have := hlt x hx; omega⟩
    · rcases Nat.lt_or_ge g n with z | z
      · exact List.mem_append_left _ (o3 g z)
      · exact List.mem_append_right _ (by simp; omega)
    · rw [List.filter_append, hfil]
      have hch := o4 x hx
      by_cases e : x = hN
      · subst e
        rw [List.filter_cons_of_pos ((hholdn x hx).mpr rfl), List.filter_nil]
        rcases ls_snoc (O.filter (hold σ x)) with q | ⟨A, z, q⟩
        · rw [q]
          unfold pLast
          simp only [List.getLast?_nil]
          refine ⟨?_, Nat.lt_succ_self n, ?_⟩
          · rw [fR_uR, up3_at, va_up_self]
          · rw [fR_uR, up3_ne _ _ _ (by omega), k6]; rfl
        · have hzO : z ∈ O := (List.mem_filter.mp (show z ∈ O.filter (hold σ x) by rw [q]; simp)).1
          have hzn := hlt z hzO
          have hnd : (A ++ [z]).Nodup := by rw [← q]; exact o2.filter _
          rw [q] at hch ⊢
          have e0 : pLast (gMk σ n x u d one rt a) x n (A ++ [z]) = uR (gMk σ n x u d one rt a) 1 z 10 (some n) := by
            unfold pLast
            rw [List.getLast?_concat]
          rw [e0, List.append_assoc]
          have e1 : fR (uR (gMk σ n x u d one rt a) 1 z 10 (some n)) 7 1 x = fR σ 7 1 x := by
            rw [fR_uR, up3_ne _ _ _ (by omega), gk_R (Or.inr (by decide)) (by omega)]
          rw [e1]
          refine Ch_snoc (σ := σ) (σ' := uR (gMk σ n x u d one rt a) 1 z 10 (some n)) (by rw [b3]; exact Nat.le_succ n) (Nat.lt_succ_self n) ?_ A z _ (fun i hi => ?_) ?_ hch
          · rw [fR_uR, up3_ne _ _ _ (by omega), k6]
          · have hiO : i ∈ O := (List.mem_filter.mp (show i ∈ O.filter (hold σ x) by rw [q]; simp [hi])).1
            have hin := hlt i hiO
            have hiz : i ≠ z := fun w => by
              subst w
              rw [List.nodup_append] at hnd
              exact hnd.2.2 i hi i (by simp) rfl
            rw [fR_uR, up3_ne _ _ _ (fun w => hiz w.2), gk_R (Or.inl (by omega)) (by omega)]
          · rw [fR_uR, up3_at, va_up_self]
      · rw [List.filter_cons_of_neg (fun q => e ((hholdn x hx).mp q)), List.filter_nil, List.append_nil]
        have hset : ∀ i ∈ O.filter (hold σ x), fR (pLast (gMk σ n hN u d one rt a) hN n (O.filter (hold σ hN))) 1 i 10 = fR σ 1 i 10 := fun i hi => by
          obtain ⟨hiO, hix⟩ := List.mem_filter.mp hi
          have hin := hlt i hiO
          unfold pLast
          split
          · rw [fR_uR, up3_ne _ _ _ (by omega), gk_R (Or.inl (by omega)) (by omega)]
          · rename_i z hz
            have hzm : z ∈ O.filter (hold σ hN) := List.mem_of_getLast? hz
            have hiz : i ≠ z := fun w => by
              subst w
              have y := (List.mem_filter.mp hzm).2
              unfold hold at hix y
              have hix := of_decide_eq_true hix
              have y := of_decide_eq_true y
              exact e ((nI_eq (by omega) (by omega)).mp (hix.symm.trans y))
            rw [fR_uR, up3_ne _ _ _ (fun w => hiz w.2), gk_R (Or.inl (by omega)) (by omega)]
        have e1 : fR (pLast (gMk σ n hN u d one rt a) hN n (O.filter (hold σ hN))) 7 1 x = fR σ 7 1 x := by
          unfold pLast
          split
          · rw [fR_uR, up3_val, if_neg (fun w => e w.2.2), gk_R (Or.inr (by decide)) (by omega)]
          · rw [fR_uR, up3_ne _ _ _ (by omega), gk_R (Or.inr (by decide)) (by omega)]
        rw [e1]
        exact Ch_cong (by rw [b3, pl_G]; exact Nat.le_succ n) _ _ hset hch
  · by_cases e : i = n
    · subst e
      obtain ⟨q1, q2, q3⟩ := hM.2.1 (i + 1) (by omega)
      obtain ⟨z1, z2⟩ := mNd_no hw (g := i + 1) (by omega) (by omega) r (Nat.le_refl _)
      have f0 : fI (dGuar μ i (nI hN) (lN a) (nI u) (nI d) one rt) 9 0 (i + 1) = nI hN := by simp [dGuar, dG0, fI_uI, fI_uL, up3_val]
      have f2 : fI (dGuar μ i (nI hN) (lN a) (nI u) (nI d) one rt) 9 2 (i + 1) = nI u := by simp [dGuar, dG0, fI_uI, fI_uL, up3_val]
      have f3 : fI (dGuar μ i (nI hN) (lN a) (nI u) (nI d) one rt) 9 3 (i + 1) = nI d := by simp [dGuar, dG0, fI_uI, fI_uL, up3_val]
      have f4 : fI (dGuar μ i (nI hN) (lN a) (nI u) (nI d) one rt) 9 4 (i + 1) = one := by simp [dGuar, dG0, fI_uI, fI_uL, up3_val]
      have f5 : fI (dGuar μ i (nI hN) (lN a) (nI u) (nI d) one rt) 9 5 (i + 1) = rt := by simp [dGuar, dG0, fI_uI, fI_uL, up3_val]
      have f10 : fI (dGuar μ i (nI hN) (lN a) (nI u) (nI d) one rt) 9 10 (i + 1) = fI μ 8 0 2 := by simp [dGuar, dG0, fI_uI, fI_uL, up3_val]
      have f1 : fL (dGuar μ i (nI hN) (lN a) (nI u) (nI d) one rt) 9 1 (i + 1) = lN a := by simp [dGuar, dG0, fL_uI, fL_uL, up3_val]
      refine ⟨?_, ?_, ?_⟩
      · unfold GS
        rw [pl_I, k1, k2, k3, f0, f2, f3, f4, f5]
        exact ⟨rfl, rfl, ⟨hN, hh, rfl⟩, rfl, ⟨u, d, hu, hd, hd2, rfl, rfl, rfl, rfl⟩, rfl⟩
      · unfold GM
        rw [pl_I, pl_L, k1, k3, k4, k5, f1, f10, mI 6 (by simp), mL 8 (by decide), mL 9 (by decide), q1, q2, q3]
        exact ⟨⟨a, ha, rfl, rfl⟩, rfl, rfl, Or.inl ⟨rfl, rfl, rfl, b9, Int32.le_refl _⟩⟩
      · have hw2 : ∀ s, s ≤ r → mNd (dGuar μ i (nI hN) (lN a) (nI u) (nI d) one rt) (i + 1) s = 0 ∧ mUs (dGuar μ i (nI hN) (lN a) (nI u) (nI d) one rt) (i + 1) s = 0 := fun s => by
          induction s with
          | zero => exact fun _ => ⟨rfl, rfl⟩
          | succ s ih =>
            intro hs
            have key : ∀ k, k ≤ mP μ (s + 1) → mNdI (dGuar μ i (nI hN) (lN a) (nI u) (nI d) one rt) (i + 1) (s + 1) 0 k = 0 ∧ mUsI (dGuar μ i (nI hN) (lN a) (nI u) (nI d) one rt) (i + 1) (s + 1) 0 k = 0 := fun k => by
              induction k with
              | zero => exact fun _ => ⟨rfl, rfl⟩
              | succ k ih =>
                intro hk
                obtain ⟨i1, i2⟩ := ih (by omega)
                obtain ⟨g', h1, h2, h3⟩ := hw.2.2.2.2.2.2.1 (s + 1) k (by omega) hs (by omega)
                have hne : ¬ nI g' = nI (i + 1) := fun q => by have := (nI_eq (a := g') (b := i + 1) (by omega) (by omega)).mp q; omega
                rw [mNdI, mUsI, i1, i2, mI 16 (by simp), h3, if_neg hne, if_neg hne]
                exact ⟨rfl, rfl⟩
            obtain ⟨i1, i2⟩ := ih (by omega)
            rw [mNd, mUs, i1, i2]
            exact key _ (Nat.le_refl _)
        obtain ⟨y1, y2⟩ := hw2 r (Nat.le_refl _)
        unfold GU
        rw [y1, y2, pl_L, pl_I, k1, k4]
        exact ⟨rfl, rfl⟩
    · have hi' : i < n := by omega
      obtain ⟨g1, g2, g3⟩ := hG i hi'
      have cI : ∀ k, k ≠ 0 → fI (pLast (gMk σ n hN u d one rt a) hN n (O.filter (hold σ hN))) k i = fI σ k i := fun k hk => by rw [pl_I, gk_I hk (Or.inl e)]
      have cL : ∀ k, fL (pLast (gMk σ n hN u d one rt a) hN n (O.filter (hold σ hN))) k i = fL σ k i := fun k => by rw [pl_L, gk_L (Or.inl e)]
      refine ⟨GS_of g1 (by rw [cI 1 (by decide)]) (by rw [cI 1 (by decide)]) (by rw [cI 1 (by decide)]) (cI 2 (by decide)) (by rw [cI 3 (by decide)]) (m2 _ (by omega) 0 (by simp)) (m2 _ (by omega) 4 (by simp)) (m2 _ (by omega) 2 (by simp)) (m2 _ (by omega) 3 (by simp)) (m2 _ (by omega) 5 (by simp)), GM_of g2 (by rw [cL]) (by rw [cL]) (by rw [cI 1 (by decide)]) (cI 3 (by decide)) (by rw [cL]) (m1 _ (by omega)) (by rw [mL 8 (by decide)]) (by rw [mL 9 (by decide)]) (by rw [mI 6 (by simp)]) (by rw [mI 7 (by simp)]) (m2 _ (by omega) 10 (by simp)) (m2 _ (by omega) 5 (by simp)) mt, ?_⟩
      have ee := nd_same (μ' := dGuar μ n (nI hN) (lN a) (nI u) (nI d) one rt) (g := i + 1) hw (m2 _ (by omega) 2 (by simp)) (m2 _ (by omega) 3 (by simp)) (fun _ _ => by rw [mI 15 (by simp)]) (fun _ _ => by rw [mI 16 (by simp)]) (fun _ _ => by rw [mL 17 (by decide)])
      unfold GU at *
      rw [ee.1, ee.2, cL, cI 1 (by decide)]
      exact g3
  · exact RR_of (hRR j hj) (Nat.le_succ n) (by rw [pl_I, gk_I (by decide) (Or.inr (by decide))]) (by rw [pl_L, gk_L (Or.inr (by decide))]) (by rw [pl_R (by decide) (by omega), gk_R (Or.inr (by decide)) (by omega)]) (by rw [pl_L, gk_L (Or.inr (by decide))]) (by rw [mI 15 (by simp)]) (by rw [mI 12 (by simp)]) (by rw [mI 14 (by simp)]) (by rw [mL 13 (by decide)]) (fun _ _ => by rw [mI 16 (by simp)]) (fun _ _ => by rw [mL 17 (by decide)])
  · obtain ⟨⟨p, hp, e1, e2⟩, e3⟩ := hD
    refine ⟨⟨p, hp, ?_, fun k hk => ?_⟩, ?_⟩
    · rw [pl_I, gk_I (by decide) (Or.inr (by decide))]; exact e1
    · rw [pl_R (by decide) (by omega), gk_R (Or.inr (by decide)) (by omega)]
      obtain ⟨g, y1, y2⟩ := e2 k hk
      exact ⟨g, y1, by omega⟩
    · rw [pl_I, gk_I (by decide) (Or.inr (by decide))]; exact e3
  · rw [pl_I, gk_0 (by decide), hL]
    exact (mLive_of r (fun _ _ _ => by rw [mI 14 (by simp)])).symm
  · obtain ⟨q1, q2, q3⟩ := hM
    refine ⟨fun j hj => by rw [mI 14 (by simp)]; exact q1 j hj, fun g hg => ?_, by rw [mI 15 (by simp)]; exact q3⟩
    rw [mI 6 (by simp), mL 8 (by decide), mL 9 (by decide)]
    exact q2 g (by omega)
theorem op_guarantee {σ μ : CS} {n r : Nat} {O : List Nat} {x : Int32} {a : Int64} {u d one rt : Int32} (h : Rel σ μ n r O) : fI (cGuarM μ n x a u d one rt).2 8 0 0 = (cGu σ n (fun k => O.filter (hold σ k)) x a u d one rt).1 ∧ ((cGu σ n (fun k => O.filter (hold σ k)) x a u d one rt).1 = 0 → (cGu σ n (fun k => O.filter (hold σ k)) x a u d one rt).2.1 = (cGuarM μ n x a u d one rt).1) ∧ fL (cGuarM μ n x a u d one rt).2 10 = fL μ 10 ∧ ∃ n' r' O', Rel (cGu σ n (fun k => O.filter (hold σ k)) x a u d one rt).2.2 (cGuarM μ n x a u d one rt).2 n' r' O' := by
  have hn20 := h.1.1
  have bad : ∀ y : Int32, y = 1 ∨ y = 2 → fI ((0 : Int32), uI μ 8 0 0 y).2 8 0 0 = (y, (0 : Int32), σ).1 ∧ ((y, (0 : Int32), σ).1 = 0 → (y, (0 : Int32), σ).2.1 = ((0 : Int32), uI μ 8 0 0 y).1) ∧ fL ((0 : Int32), uI μ 8 0 0 y).2 10 = fL μ 10 ∧ ∃ n' r' O', Rel (y, (0 : Int32), σ).2.2 ((0 : Int32), uI μ 8 0 0 y).2 n' r' O' := fun y _ => ⟨rfl, fun _ => rfl, rfl, n, r, O, Rel_th h⟩
  unfold cGu cGuarM
  by_cases c1 : pHold x
  · rw [if_pos c1, if_pos c1]
    by_cases c2 : mGood a u d rt
    · rw [if_pos c2]
      obtain ⟨e1, e2, e3, e4⟩ := good_iff.mp c2
      rw [if_pos e1, if_pos e2, if_neg e3, if_pos e4]
      by_cases c3 : n = 20
      · rw [if_pos (show nI n = 20 by rw [c3]; rfl), if_neg (show ¬ nI n < 20 by rw [c3]; decide)]
        exact bad 2 (Or.inr rfl)
      · rw [if_neg (show ¬ nI n = 20 from fun q => c3 ((nI_eq (b := 20) (by omega) (by omega)).mp q)), if_pos (show nI n < 20 from (nI_ltI (b := 20) (by omega) (by omega)).mpr (by omega))]
        obtain ⟨hN, hh, rfl⟩ := hold_in c1
        obtain ⟨uN, hu, rfl⟩ := nI_of e2.1
        obtain ⟨dN', hd, rfl⟩ := nI_of (x := d) (fun z => e2.2.1 (Int32.lt_of_lt_of_le z (by decide)))
        obtain ⟨aN, ha, rfl⟩ := pk_lOf (x := a) (fun z => e1.1 (Int64.lt_of_lt_of_le z (by decide)))
        have d1 : 1 ≤ dN' := by
          rcases Nat.eq_zero_or_pos dN' with z | z
          · subst z; exact absurd (show nI 0 < 1 by decide) e2.2.1
          · exact z
        have d2 : dN' ≤ 100 := by
          rcases Nat.lt_or_ge 100 dN' with z | z
          · exact absurd (nI_lt (a := 100) z hd) e2.2.2.1
          · exact z
        have d3 : uN ≤ dN' := by
          rcases Nat.lt_or_ge dN' uN with z | z
          · exact absurd (nI_lt z hu) e2.2.2.2
          · exact z
        have a1 : aN ≤ 1000000000 := by
          rcases Nat.lt_or_ge 1000000000 aN with z | z
          · exact absurd ((pk_lLT (a := 1000000000) (b := aN) (by omega) ha).mpr z) e1.2
          · exact z
        refine ⟨rfl, fun _ => rfl, rfl, n + 1, r, O ++ [n], ?_⟩
        rw [nI_clamp (by omega)]
        exact Rel_guar h (by omega) hh d3 d1 d2 a1
    · rw [if_neg c2]
      by_cases e1 : pCent a
      · rw [if_pos e1]
        by_cases e2 : pShare u d
        · rw [if_pos e2]
          by_cases e3 : rt < 0
          · rw [if_pos e3]; exact bad 1 (Or.inl rfl)
          · rw [if_neg e3]
            by_cases e4 : rt ≤ 1000
            · exact absurd (good_iff.mpr ⟨e1, e2, e3, e4⟩) c2
            · rw [if_neg e4]; exact bad 1 (Or.inl rfl)
        · rw [if_neg e2]; exact bad 1 (Or.inl rfl)
      · rw [if_neg e1]; exact bad 1 (Or.inl rfl)
  · rw [if_neg c1, if_neg c1]; exact bad 1 (Or.inl rfl)

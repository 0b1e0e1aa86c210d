/-! reserve -/
theorem lN_int {n : Nat} (h : n < 2 ^ 63) : (lN n).toInt = (n : Int) := Int64.toInt_ofNat_of_lt h
theorem nd_nat {σ μ : CS} {n r : Nat} {O : List Nat} (h : Rel σ μ n r O) {g : Nat} (hg : g < n) : ∀ s, s ≤ r → ∃ m, m ≤ 4000000000 * s ∧ mNd μ (g + 1) s = lN m
  | 0, _ => ⟨0, by omega, rfl⟩
  | s + 1, hs => by
    obtain ⟨m, hm, e⟩ := nd_nat h hg s (by omega)
    obtain ⟨⟨p, hp4, p1, p2, ht⟩, -⟩ := h.2.2.2.2.1 s (by omega)
    obtain ⟨u, d, k1, k2, k3, k4, k5, k6, k7⟩ := (h.2.2.2.1 g hg).1.2.2.2.2.1
    have key : ∀ k, k ≤ p → ∃ y, y ≤ 1000000000 * k ∧ mNdI μ (g + 1) (s + 1) 0 k = lN y := fun k => by
      induction k with
      | zero => exact fun _ => ⟨0, by omega, rfl⟩
      | succ k ih =>
        intro hk
        obtain ⟨y, hy, ey⟩ := ih (by omega)
        obtain ⟨g', c, t1, t2, t3, t4, t5, t6, t7⟩ := ht k (by omega)
        obtain ⟨-, z, hz, ez⟩ := need_eq (c := c) k4 k5 k6 k7 k1 k2 k3 t7
        rw [mNdI, ey, t5, ez]
        split
        · exact ⟨y + z, by omega, lN_add _ _⟩
        · exact ⟨y, by omega, by rw [show (0 : Int64) = lN 0 from rfl, lN_add]; rfl⟩
    obtain ⟨y, hy, ey⟩ := key p (Nat.le_refl _)
    refine ⟨m + y, by omega, ?_⟩
    rw [mNd_s, e]
    unfold cN
    rw [mP_of p2 hp4, ey, lN_add]
theorem may_nat {σ μ : CS} {n r : Nat} {O : List Nat} (h : Rel σ μ n r O) {g : Nat} (hg : g < n) : ∃ m, m ≤ 100000000000 ∧ mMay μ (g + 1) r = lN m := by
  obtain ⟨m, hm, e⟩ := nd_nat h hg r (Nat.le_refl _)
  have hr := h.1.2.1
  obtain ⟨g1, g2, g3⟩ := h.2.2.2.1 g hg
  obtain ⟨u, d, k1, k2, k3, k4, k5, k6, k7⟩ := g1.2.2.2.2.1
  obtain ⟨⟨a, ha, a1, a2⟩, -⟩ := g2
  have hf : ∃ f, f ≤ 1000000000 ∧ mFree μ (g + 1) r = lN f := by
    unfold mFree
    rw [e, a2]
    rcases Nat.lt_or_ge a m with z | z
    · refine ⟨0, by omega, ?_⟩
      rw [if_neg]
      · rfl
      · intro q
        have q1 := Int64.le_iff_toInt_le.mp q
        rw [Int64.toInt_sub, lN_int (by omega), lN_int (by omega)] at q1
        have q2 : ((a : Int) - (m : Int)).bmod (2 ^ 64) = (a : Int) - m := Int.bmod_eq_of_le (by omega) (by omega)
        rw [q2] at q1
        have q3 : (0 : Int64).toInt = 0 := rfl
        omega
    · refine ⟨a - m, by omega, ?_⟩
      rw [lN_sub z, if_pos]
      exact (pk_lLE (a := 0) (by omega) (by omega)).mpr (by omega)
  obtain ⟨f, hf1, hf2⟩ := hf
  unfold mMay
  split
  · exact ⟨0, by omega, rfl⟩
  · split
    · exact ⟨1000000000, by omega, rfl⟩
    · rename_i z
      have hu0 : 0 < u := by
        rcases Nat.eq_zero_or_pos u with w | w
        · subst w; exact absurd k6 z
        · exact w
      have hfd : f * d ≤ 1000000000 * 100 := Nat.mul_le_mul hf1 k3
      refine ⟨f * d / u, ?_, ?_⟩
      · have := Nat.div_le_self (f * d) u
        omega
      · rw [hf2, k6, k7, nI_l (by omega), nI_l (by omega), lN_mul, pk_lDiv (by omega) hu0 (by omega)]
/-- what a draft leaves of the model -/
def MrOk (μ ν : CS) (r : Nat) : Prop := fI ν 8 = fI μ 8 ∧ (∀ i, i ≠ 15 → i ≠ 16 → fI ν 9 i = fI μ 9 i) ∧ (∀ q, q ≠ r + 1 → fI ν 9 15 q = fI μ 9 15 q) ∧ (∀ q, q < 4 * r + 4 → fI ν 9 16 q = fI μ 9 16 q) ∧ (∀ i, i ≠ 17 → fL ν 9 i = fL μ 9 i) ∧ (∀ q, q < 4 * r + 4 → fL ν 9 17 q = fL μ 9 17 q) ∧ fL ν 10 = fL μ 10
theorem mr_p {μ ν : CS} {r q g : Nat} {x : Int64} (h : MrOk μ ν r) : MrOk μ (mLayP ν r q g x) r := by
  obtain ⟨h1, h2, h3, h4, h5, h6, h7⟩ := h
  refine ⟨h1, fun i i1 i2 => ?_, h3, fun y hy => ?_, fun i hi => ?_, fun y hy => ?_, h7⟩
  · unfold mLayP
    rw [fI_uL, fI_uI, up3_ne _ _ _ (fun z => i2 z.2)]
    exact h2 i i1 i2
  · unfold mLayP
    rw [fI_uL, fI_uI, up3_val, if_neg (by omega)]
    exact h4 y hy
  · unfold mLayP
    rw [fL_uL, up3_ne _ _ _ (fun z => hi z.2)]
    exact h5 i hi
  · unfold mLayP
    rw [fL_uL, up3_val, if_neg (by omega)]
    exact h6 y hy
theorem mr_15 {μ ν : CS} {r : Nat} {v : Int32} (h : MrOk μ ν r) : MrOk μ (uI ν 9 15 (r + 1) v) r := by
  obtain ⟨h1, h2, h3, h4, h5, h6, h7⟩ := h
  refine ⟨h1, fun i i1 i2 => ?_, fun q hq => ?_, h4, h5, h6, h7⟩
  · rw [fI_uI, up3_ne _ _ _ (fun z => i1 z.2)]
    exact h2 i i1 i2
  · rw [fI_uI, up3_val, if_neg (fun z => hq z.2.2)]
    exact h3 q hq
theorem Rel_drM {σ μ ν : CS} {n r : Nat} {O : List Nat} (h : Rel σ μ n r O) (m : MrOk μ ν r) : Rel σ ν n r O := by
  have hw := WFm_of h
  obtain ⟨hB, hR, hO, hG, hRR, hD, hL, hM⟩ := h
  obtain ⟨m8, mi, m15, m16, ml, m17, m10⟩ := m
  refine ⟨?_, hR, ?_, fun i hi => ?_, fun j hj => ?_, hD, ?_, ?_⟩
  · unfold BB at *
    rw [m8, mi 18 (by decide) (by decide), mi 19 (by decide) (by decide)]
    exact hB
  · exact OO_of hO rfl rfl rfl (fun _ => rfl) (mi 11 (by decide) (by decide))
  · obtain ⟨g1, g2, g3⟩ := hG i hi
    refine ⟨GS_of g1 rfl rfl rfl rfl rfl (by rw [mi 0 (by decide) (by decide)]) (by rw [mi 4 (by decide) (by decide)]) (by rw [mi 2 (by decide) (by decide)]) (by rw [mi 3 (by decide) (by decide)]) (by rw [mi 5 (by decide) (by decide)]), GM_of g2 rfl rfl rfl rfl rfl (by rw [ml 1 (by decide)]) (by rw [ml 8 (by decide)]) (by rw [ml 9 (by decide)]) (by rw [mi 6 (by decide) (by decide)]) (by rw [mi 7 (by decide) (by decide)]) (by rw [mi 10 (by decide) (by decide)]) (by rw [mi 5 (by decide) (by decide)]) (by rw [m8]), ?_⟩
    have e := nd_same (μ' := ν) (g := i + 1) hw (by rw [mi 2 (by decide) (by decide)]) (by rw [mi 3 (by decide) (by decide)]) (fun j hj => m15 j (by omega)) (fun q hq => m16 q hq) (fun q hq => m17 q hq)
    unfold GU at *; rw [e.1, e.2]; exact g3
  · exact RR_of (hRR j hj) (Nat.le_refl _) rfl rfl rfl rfl (m15 _ (by omega)) (by rw [mi 12 (by decide) (by decide)]) (by rw [mi 14 (by decide) (by decide)]) (by rw [ml 13 (by decide)]) (fun k hk => m16 _ (by omega)) (fun k hk => m17 _ (by omega))
  · rw [mLive_of r (μ := μ) (fun _ _ _ => by rw [mi 14 (by decide) (by decide)])]; exact hL
  · obtain ⟨q1, q2, q3⟩ := hM
    refine ⟨fun j hj => by rw [mi 14 (by decide) (by decide)]; exact q1 j hj, fun g hg => ?_, by rw [m15 0 (by omega)]; exact q3⟩
    rw [mi 6 (by decide) (by decide), ml 8 (by decide), ml 9 (by decide)]
    exact q2 g hg
theorem Rel_drC {σ τ μ : CS} {n r q : Nat} {O : List Nat} (h : Rel σ μ n r O) (d : DrOk σ τ r n q) (h5 : fI τ 4 r 5 = 0) : Rel τ μ n r O := by
  obtain ⟨hB, hR, hO, hG, hRR, hD, hL, hM⟩ := h
  obtain ⟨b1, b2, b3, b4, b5, b6, b7, b8, b9, b10, b11, b12, b13⟩ := hB
  refine ⟨?_, d.rg hR, ?_, fun i hi => ?_, fun j hj => ?_, ⟨⟨q, d.q4, d.p, d.pg⟩, h5⟩, by rw [d.ik 0 (by decide)]; exact hL, hM⟩
  · refine ⟨b1, b2, d.dg, d.dr.trans b4, ?_, ?_, b7, b8, ?_, ?_, ?_, ?_, ?_⟩
    · rw [d.ik 0 (by decide)]; exact b5
    · rw [d.ik 0 (by decide)]; exact b6
    · rw [d.ik 0 (by decide)]; exact b9
    · rw [d.rk 0 (by decide)]; exact b10
    · rw [d.rk 7 (by decide)]; exact b11
    · rw [d.rk 7 (by decide)]; exact b12
    · rw [d.ik 7 (by decide)]; exact b13
  · exact OO_of hO (d.rk 1 (by decide)) (by rw [d.rk 7 (by decide)]) (d.dg.trans b3.symm) (fun _ => by rw [d.ik 1 (by decide)]) rfl
  · obtain ⟨g1, g2, g3⟩ := hG i hi
    refine ⟨GS_of g1 (by rw [d.ik 1 (by decide)]) (by rw [d.ik 1 (by decide)]) (by rw [d.ik 1 (by decide)]) (by rw [d.ik 2 (by decide)]) (by rw [d.ik 3 (by decide)]) rfl rfl rfl rfl rfl, GM_of g2 (by rw [d.lk 1 (by decide) (by decide)]) (by rw [d.lk 1 (by decide) (by decide)]) (by rw [d.ik 1 (by decide)]) (by rw [d.ik 3 (by decide)]) (by rw [d.lk 3 (by decide) (by decide)]) rfl rfl rfl rfl rfl rfl rfl rfl, ?_⟩
    unfold GU at *
    rw [d.lk 1 (by decide) (by decide), d.ik 1 (by decide)]
    exact g3
  · exact RR_of (hRR j hj) (Nat.le_refl _) (d.i4 j (by omega)) (d.l4 j (by omega)) (d.r5 j (by omega)) (d.l6 j (by omega)) rfl rfl rfl rfl (fun _ _ => rfl) (fun _ _ => rfl)
theorem hold_of {σ τ : CS} {x g : Nat} (h : fI τ 1 = fI σ 1) : hold τ x g = hold σ x g := by unfold hold; rw [h]
theorem dLay_0 {τ : CS} {r q : Nat} : ∀ t : List Nat, dLay τ r t (lN 0) q = (τ, true)
  | [] => rfl
  | g :: t => by rw [dLay, if_pos (show lN 0 ≤ 0 by decide)]; rfl
theorem gMay_of {σ τ : CS} {g : Nat} (h1 : fI τ 1 = fI σ 1) (h2 : fI τ 2 = fI σ 2) (h3 : fL τ 1 = fL σ 1) : gMay τ g = gMay σ g := by unfold gMay gUnn; rw [h1, h2, h3]
theorem lay_sim {σ μ : CS} {n r hN : Nat} {O : List Nat} (hr : Rel σ μ n r O) : ∀ (t : List Nat) (τ ν : CS) (b q : Nat), (∀ g ∈ t, g < n) → DrOk σ τ r n q → MrOk μ ν r → Tie τ ν n r q → b ≤ 1000000000 →
    (dLay τ r (t.filter (hold σ hN)) (lN b) q).2 = (mLayL r (nI hN) t ν (lN b) q).2 ∧ ∃ q', DrOk σ (dLay τ r (t.filter (hold σ hN)) (lN b) q).1 r n q' ∧ MrOk μ (mLayL r (nI hN) t ν (lN b) q).1 r ∧ Tie (dLay τ r (t.filter (hold σ hN)) (lN b) q).1 (mLayL r (nI hN) t ν (lN b) q).1 n r q' ∧ ((mLayL r (nI hN) t ν (lN b) q).2 = true → fI (mLayL r (nI hN) t ν (lN b) q).1 9 15 (r + 1) = nI q') ∧ fI (dLay τ r (t.filter (hold σ hN)) (lN b) q).1 4 r 3 = fI τ 4 r 3 ∧ fL (dLay τ r (t.filter (hold σ hN)) (lN b) q).1 4 r 4 = fL τ 4 r 4 ∧ fI (dLay τ r (t.filter (hold σ hN)) (lN b) q).1 4 r 5 = fI τ 4 r 5
  | [], τ, ν, b, q, hm, hd, hmo, ht, hb => by
    refine ⟨rfl, q, hd, mr_15 hmo, ht, fun z => ?_, rfl, rfl, rfl⟩
    have z : lN b = 0 := of_decide_eq_true z
    show fI (uI ν 9 15 (r + 1) (if lN b = 0 then nI q else 0)) 9 15 (r + 1) = nI q
    rw [fI_uI, up3_at, va_up_self, if_pos z]
  | g :: t, τ, ν, b, q, hm, hd, hmo, ht, hb => by
    have hg := hm g List.mem_cons_self
    have hm2 : ∀ x ∈ t, x < n := fun x hx => hm x (List.mem_cons_of_mem _ hx)
    have hw := WFm_of hr
    obtain ⟨g1, g2, g3⟩ := hr.2.2.2.1 g hg
    obtain ⟨m, hm9, em⟩ := may_nat hr hg
    have hmo2 := hmo
    obtain ⟨m8, mi, m15, m16, ml, m17, m10⟩ := hmo2
    have emν : mMay ν (g + 1) r = lN m := by
      rw [← em]
      have e := nd_same (μ' := ν) (g := g + 1) hw (by rw [mi 2 (by decide) (by decide)]) (by rw [mi 3 (by decide) (by decide)]) (fun j hj => m15 j (by omega)) (fun q hq => m16 q hq) (fun q hq => m17 q hq)
      unfold mMay mFree
      rw [e.1, e.2, mi 6 (by decide) (by decide), mi 4 (by decide) (by decide), mi 2 (by decide) (by decide), mi 3 (by decide) (by decide), ml 1 (by decide)]
    have emτ : gMay τ g = lN m := by
      rw [gMay_of (hd.ik 1 (by decide)) (hd.ik 2 (by decide)) (hd.lk 1 (by decide) (by decide)), may_eq g1 g2 g3, em]
    have h0 : fI ν 9 0 = fI μ 9 0 := mi 0 (by decide) (by decide)
    rw [mLayL]
    by_cases hb0 : b = 0
    · subst hb0
      rw [if_pos (show lN 0 ≤ 0 by decide), dLay_0]
      refine ⟨rfl, q, hd, mr_15 hmo, ht, fun _ => ?_, rfl, rfl, rfl⟩
      show fI (uI ν 9 15 (r + 1) (if lN 0 = 0 then nI q else 0)) 9 15 (r + 1) = nI q
      rw [fI_uI, up3_at, va_up_self, if_pos (by decide)]
    · have hb1 : ¬ lN b ≤ 0 := fun z => by have := (pk_lLE (a := b) (b := 0) (by omega) (by omega)).mp z; omega
      rw [if_neg hb1]
      by_cases hh : hold σ hN g = true
      · have e1 : mX ν r (nI hN) g (lN b) = lN (min b m) := by
          unfold mX mX1
          rw [h0, if_pos ((hold_iff g1).mp hh), emν]
          have := (min_lN (b := b) (c := m) (by omega) (by omega)).2
          unfold mMin at this
          exact this
        rw [List.filter_cons_of_pos hh, dLay, if_neg hb1, emτ, (min_lN (b := b) (c := m) (by omega) (by omega)).1, e1, lN_sub (Nat.min_le_left b m)]
        by_cases hm0 : m = 0
        · subst hm0
          rw [Nat.min_eq_right (Nat.zero_le b), if_pos (show lN 0 ≤ 0 by decide), if_pos (show lN 0 ≤ 0 by decide), Nat.sub_zero]
          exact lay_sim hr t τ ν b q hm2 hd hmo ht hb
        · have hmin : 1 ≤ min b m := by omega
          have hmb : min b m ≤ b := Nat.min_le_left b m
          have hx : ¬ lN (min b m) ≤ 0 := fun z => by have := (pk_lLE (a := min b m) (b := 0) (by omega) (by omega)).mp z; omega
          rw [if_neg hx, if_neg hx]
          have q4 := hd.q4
          by_cases hq4 : q = 4
          · subst hq4
            rw [if_neg (by omega), if_pos (show nI 4 = 4 from rfl)]
            exact ⟨rfl, 4, hd, hmo, ht, fun z => (by cases z), rfl, rfl, rfl⟩
          · rw [if_pos (by omega), if_neg (show ¬ nI q = 4 from fun z => hq4 ((nI_eq (b := 4) (by omega) (by omega)).mp z))]
            have ht2 : Tie (rAdd τ r q g (lN (min b m))) (mLayP ν r q g (lN (min b m))) n r (q + 1) := fun k hk => by
              have r5 : fR (rAdd τ r q g (lN (min b m))) 5 r k = if k = q then some g else fR τ 5 r k := by
                show up3 (fR τ) 5 r q (some g) 5 r k = _
                rw [up3_at]
                by_cases z : k = q
                · subst z; rw [va_up_self, if_pos rfl]
                · rw [up_ne z, if_neg z]
              have r6 : fL (rAdd τ r q g (lN (min b m))) 6 r k = if k = q then lN (min b m) else fL τ 6 r k := by
                show up3 (fL τ) 6 r q (lN (min b m)) 6 r k = _
                rw [up3_at]
                by_cases z : k = q
                · subst z; rw [va_up_self, if_pos rfl]
                · rw [up_ne z, if_neg z]
              have r16 : fI (mLayP ν r q g (lN (min b m))) 9 16 (4 * (r + 1) + k) = if k = q then nI (g + 1) else fI ν 9 16 (4 * (r + 1) + k) := by
                show up3 (fI ν) 9 16 (4 * (r + 1) + q) (nI (g + 1)) 9 16 (4 * (r + 1) + k) = _
                rw [up3_at]
                by_cases z : k = q
                · subst z; rw [va_up_self, if_pos rfl]
                · rw [up_ne (by omega), if_neg z]
              have r17 : fL (mLayP ν r q g (lN (min b m))) 9 17 (4 * (r + 1) + k) = if k = q then lN (min b m) else fL ν 9 17 (4 * (r + 1) + k) := by
                show up3 (fL ν) 9 17 (4 * (r + 1) + q) (lN (min b m)) 9 17 (4 * (r + 1) + k) = _
                rw [up3_at]
                by_cases z : k = q
                · subst z; rw [va_up_self, if_pos rfl]
                · rw [up_ne (by omega), if_neg z]
              rw [r5, r6, r16, r17]
              by_cases z : k = q
              · exact ⟨g, min b m, if_pos z, hg, if_pos z, if_pos z, if_pos z, hmin, by omega⟩
              · obtain ⟨g', c, t1, t2, t3, t4, t5, t6, t7⟩ := ht k (by omega)
                exact ⟨g', c, by rw [if_neg z]; exact t1, t2, by rw [if_neg z]; exact t3, by rw [if_neg z]; exact t4, by rw [if_neg z]; exact t5, t6, t7⟩
            obtain ⟨s1, q', s2, s3, s4, s5, s6, s7, s8⟩ := lay_sim hr t (rAdd τ r q g (lN (min b m))) (mLayP ν r q g (lN (min b m))) (b - min b m) (q + 1) hm2 (dr_add (by omega) hg hd) (mr_p hmo) ht2 (by omega)
            refine ⟨s1, q', s2, s3, s4, s5, s6.trans ?_, s7.trans ?_, s8.trans ?_⟩
            · show up3 _ 4 r 2 _ 4 r 3 = _
              rw [up3_at, up_ne (by decide)]
              rfl
            · rfl
            · show up3 _ 4 r 2 _ 4 r 5 = _
              rw [up3_at, up_ne (by decide)]
              rfl
      · have e1 : mX ν r (nI hN) g (lN b) = 0 := by
          unfold mX mX1
          rw [h0, if_neg (fun z => hh ((hold_iff g1).mpr z)), if_neg hb1]
        rw [List.filter_cons_of_neg hh, e1, if_pos (by decide)]
        exact lay_sim hr t τ ν b q hm2 hd hmo ht hb
/-- a draft is kept -/
theorem kk_I {σ : CS} {r q k i : Nat} (h0 : k ≠ 0) (h1 : k ≠ 1) (hc : i ≠ r + 1 ∨ k ≠ 4) : fI (kKeep σ r q) k i = fI σ k i := by
  unfold kKeep
  rw [fI_uR]
  show (if i = r + 1 ∧ k = 4 then _ else fI (kDraft σ r q) k i) = _
  rw [if_neg (by omega)]
  unfold kDraft
  rw [fI_uI, up3_ne _ _ _ (fun z => h0 z.1), fI_uI, up3_ne _ _ _ (fun z => h0 z.1), fI_uR, rBind_I h1]
theorem kk_1 {σ : CS} {r q : Nat} : fI (kKeep σ r q) 1 = fI (rBind σ r q) 1 := by
  funext i
  show (if i = r + 1 ∧ 1 = 4 then _ else fI (kDraft σ r q) 1 i) = _
  rw [if_neg (by omega)]
  rfl
theorem kk_0 {σ : CS} {r q f : Nat} : fI (kKeep σ r q) 0 0 f = if f = 8 then fI σ 0 0 8 + 1 else if f = 7 then fI σ 0 0 7 + 1 else fI σ 0 0 f := by
  have e : fI (kKeep σ r q) 0 0 = fI (kDraft σ r q) 0 0 := by
    show (if 0 = r + 1 ∧ 0 = 4 then (fun _ => (0 : Int32)) else fI (kDraft σ r q) 0 0) = _
    rw [if_neg (by omega)]
  rw [e]
  unfold kDraft
  simp only [fI_uI, fI_uR, up3_val, rBind_I (show (0 : Nat) ≠ 1 by decide)]
  by_cases z8 : f = 8
  · subst z8; simp
  · by_cases z7 : f = 7
    · subst z7; simp
    · simp [z8, z7]
theorem kk_L {σ : CS} {r q k i : Nat} (h1 : k ≠ 1) (hc : i ≠ r + 1 ∨ (k ≠ 4 ∧ k ≠ 6)) : fL (kKeep σ r q) k i = fL σ k i := by
  unfold kKeep
  rw [fL_uR]
  show (if i = r + 1 ∧ (k = 4 ∨ k = 6) then _ else fL (kDraft σ r q) k i) = _
  rw [if_neg (by omega)]
  unfold kDraft
  rw [fL_uI, fL_uI, fL_uR, rBind_L h1]
theorem kk_L1 {σ : CS} {r q : Nat} : fL (kKeep σ r q) 1 = fL (rBind σ r q) 1 := by
  funext i
  show (if i = r + 1 ∧ (1 = 4 ∨ 1 = 6) then _ else fL (kDraft σ r q) 1 i) = _
  rw [if_neg (by omega)]
  rfl
theorem kk_R {σ : CS} {r q k i : Nat} (h0 : k ≠ 0) (hc : i ≠ r + 1 ∨ k ≠ 5) (h7 : ¬ (k = 7 ∧ i = 2)) : fR (kKeep σ r q) k i = fR σ k i := by
  unfold kKeep
  rw [fR_uR, up3_ne _ _ _ (fun z => h0 z.1)]
  show (if i = r + 1 ∧ k = 5 then _ else fR (kDraft σ r q) k i) = _
  rw [if_neg (by omega)]
  unfold kDraft
  rw [fR_uI, fR_uI, fR_uR, up3_ne _ _ _ h7, rBind_R]
theorem kk_72 {σ : CS} {r q j : Nat} : fR (kKeep σ r q) 7 2 j = if j = r then some r else fR σ 7 2 j := by
  have e : fR (kKeep σ r q) 7 2 = fR (kDraft σ r q) 7 2 := by
    unfold kKeep
    rw [fR_uR, up3_ne _ _ _ (by omega)]
    show (if 2 = r + 1 ∧ 7 = 5 then _ else fR (kDraft σ r q) 7 2) = _
    rw [if_neg (by omega)]
  rw [e]
  show up3 (fR (rBind σ r q)) 7 2 r (some r) 7 2 j = _
  rw [up3_at, rBind_R]
  by_cases z : j = r
  · subst z; rw [va_up_self, if_pos rfl]
  · rw [up_ne z, if_neg z]
theorem kk_n {σ : CS} {r q : Nat} : fI (kKeep σ r q) 4 (r + 1) = fun _ => 0 := by
  show (if r + 1 = r + 1 ∧ 4 = 4 then (fun _ => (0 : Int32)) else fI (kDraft σ r q) 4 (r + 1)) = _
  rw [if_pos ⟨rfl, rfl⟩]
theorem Rel_keep {σ μ : CS} {n r q : Nat} {O : List Nat} {x : Int32} {y : Int64} (h : Rel σ μ n r O) (hr : r < 60) (tie : Tie σ μ n r q) (hq4 : q ≤ 4) (hq : fI σ 4 r 2 = nI q) (h15 : fI μ 9 15 (r + 1) = nI q) (h3 : fI σ 4 r 3 = x) (h4 : fL σ 4 r 4 = y) : Rel (kKeep σ r q) (uL (uI (uI μ 8 0 15 (nI (r + 1))) 9 12 (r + 1) x) 9 13 (r + 1) y) n (r + 1) O := by
  have hw := WFm_of h
  obtain ⟨hB, hR, hO, hG, hRR, hD, hL, hM⟩ := h
  obtain ⟨b1, b2, b3, b4, b5, b6, b7, b8, b9, b10, b11, b12, b13⟩ := hB
  have mi : ∀ i, i ≠ 12 → fI (uL (uI (uI μ 8 0 15 (nI (r + 1))) 9 12 (r + 1) x) 9 13 (r + 1) y) 9 i = fI μ 9 i := fun i hi => by
    rw [fI_uL, fI_uI, up3_ne _ _ _ (fun z => hi z.2), fI_uI, up3_ne _ _ _ (by omega)]
  have ml : ∀ i, i ≠ 13 → fL (uL (uI (uI μ 8 0 15 (nI (r + 1))) 9 12 (r + 1) x) 9 13 (r + 1) y) 9 i = fL μ 9 i := fun i hi => by
    rw [fL_uL, up3_ne _ _ _ (fun z => hi z.2), fL_uI, fL_uI]
  have m12 : ∀ j, fI (uL (uI (uI μ 8 0 15 (nI (r + 1))) 9 12 (r + 1) x) 9 13 (r + 1) y) 9 12 j = if j = r + 1 then x else fI μ 9 12 j := fun j => by
    by_cases z : j = r + 1 <;> simp [fI_uL, fI_uI, up3_val, z]
  have m13 : ∀ j, fL (uL (uI (uI μ 8 0 15 (nI (r + 1))) 9 12 (r + 1) x) 9 13 (r + 1) y) 9 13 j = if j = r + 1 then y else fL μ 9 13 j := fun j => by
    by_cases z : j = r + 1 <;> simp [fL_uL, fL_uI, up3_val, z]
  have hmp : mP μ (r + 1) = q := mP_of h15 hq4
  have hnz : ∀ k, k < q → ¬ fL σ 6 r k = 0 := fun k hk => by
    obtain ⟨g, c, t1, t2, t3, t4, t5, t6, t7⟩ := tie k hk
    rw [t4]; exact lN_ne0 t6 t7
  refine ⟨?_, ?_, ?_, fun i hi => ?_, fun j hj => ?_, ?_, ?_, ?_⟩
  · refine ⟨b1, by omega, ?_, ?_, by rw [kk_0]; exact b5, ?_, b7, rfl, by rw [kk_0]; exact b9, ?_, fun i hi => ?_, fun j hj => ?_, fun e he => ?_⟩
    · exact (nG_kd (p := q)).trans b3
    · rfl
    · rw [kk_0, if_neg (by decide), if_pos rfl, b6, nI_1]
    · show up3 (fR (rNew (kDraft σ r q) (r + 1))) 0 0 5 (some (r + 1)) 0 0 5 = _
      rw [up3_at, va_up_self]
    · rw [kk_R (by decide) (Or.inr (by decide)) (by omega)]; exact b11 i hi
    · rw [kk_72]
      by_cases z : j = r
      · rw [if_pos z, z]
      · rw [if_neg z]; exact b12 j (by omega)
    · rw [kk_I (by decide) (by decide) (Or.inr (by decide)), kk_I (by decide) (by decide) (Or.inr (by decide)), mi 18 (by decide), mi 19 (by decide)]
      exact b13 e he
  · have hk := RG_kd (p := q) hR (show r < nR σ by omega)
    intro k i j g e
    have eN : nR (kKeep σ r q) = r + 2 := rfl
    have eG : nG (kKeep σ r q) = nG (kDraft σ r q) := rfl
    have eN2 : nR (kDraft σ r q) = r + 1 := nR_kd.trans b4
    rw [eN, eG]
    have e' : up3 (fR (rNew (kDraft σ r q) (r + 1))) 0 0 5 (some (r + 1)) k i j = some g := e
    rw [up3_val] at e'
    split at e'
    · rename_i hc
      cases e'
      rw [if_pos (Or.inl hc.1)]
      omega
    · by_cases c : i = r + 1 ∧ k = 5
      · have e2 : fR (rNew (kDraft σ r q) (r + 1)) k i = fun _ => none := if_pos c
        rw [e2] at e'
        cases e'
      · have e2 : fR (rNew (kDraft σ r q) (r + 1)) k i = fR (kDraft σ r q) k i := if_neg c
        rw [e2] at e'
        have := hk k i j g e'
        split at this
        · rw [if_pos (by assumption)]; omega
        · rw [if_neg (by assumption)]; exact this
  · refine OO_of hO ?_ (kk_R (by decide) (Or.inr (by decide)) (by omega)) nG_kd (fun g => by rw [kk_1, bind_I (by decide)]) (mi 11 (by decide))
    funext i
    exact kk_R (by decide) (Or.inr (by decide)) (by omega)
  · obtain ⟨g1, g2, g3⟩ := hG i hi
    refine ⟨GS_of g1 (by rw [kk_1, bind_I (by decide)]) (by rw [kk_1, bind_I (by decide)]) (by rw [kk_1, bind_I (by decide)]) (kk_I (by decide) (by decide) (Or.inr (by decide))) (by rw [kk_I (by decide) (by decide) (Or.inr (by decide))]) (by rw [mi 0 (by decide)]) (by rw [mi 4 (by decide)]) (by rw [mi 2 (by decide)]) (by rw [mi 3 (by decide)]) (by rw [mi 5 (by decide)]), GM_of g2 (by rw [kk_L1, bind_L (by decide)]) (by rw [kk_L1, bind_L (by decide)]) (by rw [kk_1, bind_I (by decide)]) (kk_I (by decide) (by decide) (Or.inr (by decide))) (by rw [kk_L (by decide) (Or.inr (by decide))]) (by rw [ml 1 (by decide)]) (by rw [ml 8 (by decide)]) (by rw [ml 9 (by decide)]) (by rw [mi 6 (by decide)]) (by rw [mi 7 (by decide)]) (by rw [mi 10 (by decide)]) (by rw [mi 5 (by decide)]) rfl, ?_⟩
    have e := nd_same (μ' := uL (uI (uI μ 8 0 15 (nI (r + 1))) 9 12 (r + 1) x) 9 13 (r + 1) y) (g := i + 1) hw (by rw [mi 2 (by decide)]) (by rw [mi 3 (by decide)]) (fun _ _ => by rw [mi 15 (by decide)]) (fun _ _ => by rw [mi 16 (by decide)]) (fun _ _ => by rw [ml 17 (by decide)])
    have eN : cN (uL (uI (uI μ 8 0 15 (nI (r + 1))) 9 12 (r + 1) x) 9 13 (r + 1) y) (i + 1) (r + 1) = dN σ i r q := by
      rw [cN_of (μ := μ) (by rw [mi 2 (by decide)]) (by rw [mi 3 (by decide)]) (by rw [mi 15 (by decide)]) (fun _ _ => ⟨by rw [mi 16 (by decide)], by rw [ml 17 (by decide)]⟩), dN_tie b1 hi (need_of g1) q tie]
      unfold cN
      rw [hmp]
    have eU : cU (uL (uI (uI μ 8 0 15 (nI (r + 1))) 9 12 (r + 1) x) 9 13 (r + 1) y) (i + 1) (r + 1) = dU σ i r q := by
      rw [cU_of (μ := μ) (by rw [mi 15 (by decide)]) (fun _ _ => by rw [mi 16 (by decide)]), dU_tie b1 hi q tie]
      unfold cU
      rw [hmp]
    unfold GU at *
    rw [mNd_s, mUs_s, e.1, e.2, eN, eU, kk_L1, kk_1, bind_6 (need0 g1) q, bind_8 q hnz, g3.1, g3.2]
    exact ⟨rfl, rfl⟩
  · by_cases z : j = r
    · subst z
      refine ⟨⟨q, hq4, ?_, ?_, ?_⟩, ?_, ?_, ?_, ?_⟩
      · rw [kk_I (by decide) (by decide) (Or.inl (by omega))]; exact hq
      · rw [mi 15 (by decide)]; exact h15
      · exact Tie_of tie hq4 (Nat.le_refl _) (kk_R (by decide) (Or.inl (by omega)) (by omega)) (kk_L (by decide) (Or.inl (by omega))) (fun _ _ => by rw [mi 16 (by decide)]) (fun _ _ => by rw [ml 17 (by decide)])
      · rw [kk_I (by decide) (by decide) (Or.inl (by omega)), m12, if_pos rfl]; exact h3
      · rw [kk_L (by decide) (Or.inl (by omega)), m13, if_pos rfl]; exact h4
      · rw [kk_I (by decide) (by decide) (Or.inl (by omega)), mi 14 (by decide), hM.1 (j + 1) (by omega)]; exact hD.2
      · rw [mi 14 (by decide), hM.1 (j + 1) (by omega)]; decide
    · exact RR_of (hRR j (by omega)) (Nat.le_refl _) (kk_I (by decide) (by decide) (Or.inl (by omega))) (kk_L (by decide) (Or.inl (by omega))) (kk_R (by decide) (Or.inl (by omega)) (by omega)) (kk_L (by decide) (Or.inl (by omega))) (by rw [mi 15 (by decide)]) (by rw [m12, if_neg (by omega)]) (by rw [mi 14 (by decide)]) (by rw [m13, if_neg (by omega)]) (fun _ _ => by rw [mi 16 (by decide)]) (fun _ _ => by rw [ml 17 (by decide)])
  · refine ⟨⟨0, by omega, by rw [kk_n]; rfl, fun k hk => by omega⟩, by rw [kk_n]⟩
  · rw [kk_0, if_pos rfl, mLive, mLive_of r (μ := μ) (fun _ _ _ => by rw [mi 14 (by decide)]), mi 14 (by decide), hM.1 (r + 1) (by omega), if_pos rfl, hL]
  · obtain ⟨q1, q2, q3⟩ := hM
    refine ⟨fun j hj => by rw [mi 14 (by decide)]; exact q1 j (by omega), fun g hg => ?_, by rw [mi 15 (by decide)]; exact q3⟩
    rw [mi 6 (by decide), ml 8 (by decide), ml 9 (by decide)]
    exact q2 g hg
theorem op_reserve {σ μ : CS} {n r : Nat} {O : List Nat} {d x : Int32} {y : Int64} (h : Rel σ μ n r O) : fI (cResM μ n r O d x y).2 8 0 0 = (cRes σ r (fun k => O.filter (hold σ k)) d x y).1 ∧ ((cRes σ r (fun k => O.filter (hold σ k)) d x y).1 = 0 → (cRes σ r (fun k => O.filter (hold σ k)) d x y).2.1 = (cResM μ n r O d x y).1) ∧ fL (cResM μ n r O d x y).2 10 = fL μ 10 ∧ ∃ n' r' O', Rel (cRes σ r (fun k => O.filter (hold σ k)) d x y).2.2 (cResM μ n r O d x y).2 n' r' O' := by
  have hr60 := h.1.2.1
  have bad : ∀ z : Int32, fI ((0 : Int32), uI μ 8 0 0 z).2 8 0 0 = (z, (0 : Int32), σ).1 ∧ ((z, (0 : Int32), σ).1 = 0 → (z, (0 : Int32), σ).2.1 = ((0 : Int32), uI μ 8 0 0 z).1) ∧ fL ((0 : Int32), uI μ 8 0 0 z).2 10 = fL μ 10 ∧ ∃ n' r' O', Rel (z, (0 : Int32), σ).2.2 ((0 : Int32), uI μ 8 0 0 z).2 n' r' O' := fun z => ⟨rfl, fun _ => rfl, rfl, n, r, O, Rel_th h⟩
  unfold cRes cResM
  by_cases c1 : pDesk d
  · rw [if_pos c1, if_pos (desk_iff.mp c1)]
    by_cases c2 : pHold x
    · rw [if_pos c2, if_pos c2]
      by_cases c3 : pCent y
      · rw [if_pos c3, if_pos (show pIn y 1 1000000000 from c3)]
        by_cases c4 : r = 60
        · rw [if_neg (show ¬ nI r < 60 by rw [c4]; decide), if_pos (show nI r = 60 by rw [c4]; rfl)]
          exact bad 2
        · rw [if_pos (show nI r < 60 from (nI_ltI (b := 60) (by omega) (by omega)).mpr (by omega)), if_neg (show ¬ nI r = 60 from fun q => c4 ((nI_eq (b := 60) (by omega) (by omega)).mp q))]
          obtain ⟨hN, hh, rfl⟩ := hold_in c2
          obtain ⟨dN', hd, rfl⟩ := desk_in c1
          obtain ⟨b, hb, rfl⟩ := pk_lOf (x := y) (fun z => c3.1 (Int64.lt_of_lt_of_le z (by decide)))
          have hb1 : b ≤ 1000000000 := by
            rcases Nat.lt_or_ge 1000000000 b with z | z
            · exact absurd ((pk_lLT (a := 1000000000) (b := b) (by omega) hb).mpr z) c3.2
            · exact z
          rw [nI_clamp (show hN < 2 ^ 31 by omega), nI_clamp (show dN' < 2 ^ 31 by omega)]
          have hth : Rel σ (uI μ 8 0 0 0) n r O := Rel_th h
          have hgn : nG σ = n := h.1.2.2.1
          obtain ⟨s1, q, s2, s3, s4, s5, s6, s7, s8⟩ := lay_sim (hN := hN) hth O (rBeg σ r (nI hN) (lN b)) (uI μ 8 0 0 0) b 0 (fun g hg => O_lt h.2.2.1.1 hg) (by rw [← hgn]; exact dr_beg) ⟨rfl, fun _ _ _ => rfl, fun _ _ => rfl, fun _ _ => rfl, fun _ _ => rfl, fun _ _ => rfl, rfl⟩ (fun k hk => by omega) hb1
          have e3 : fI (rBeg σ r (nI hN) (lN b)) 4 r 3 = nI hN := by
            unfold rBeg; simp [fI_uI, fI_uL, up3_val]
          have e4 : fL (rBeg σ r (nI hN) (lN b)) 4 r 4 = lN b := by
            unfold rBeg; simp [fL_uI, fL_uL, up3_val]
          have e5 : fI (rBeg σ r (nI hN) (lN b)) 4 r 5 = 0 := by
            have := h.2.2.2.2.2.1.2
            unfold rBeg; simp [fI_uI, fI_uL, up3_val, this]
          rw [e3] at s6
          rw [e4] at s7
          rw [e5] at s8
          have hrel : Rel (dLay (rBeg σ r (nI hN) (lN b)) r (O.filter (hold σ hN)) (lN b) 0).1 (mLayL r (nI hN) O (uI μ 8 0 0 0) (lN b) 0).1 n r O := Rel_drM (Rel_drC hth s2 s8) s3
          have h80 : fI (mLayL r (nI hN) O (uI μ 8 0 0 0) (lN b) 0).1 8 = fI (uI μ 8 0 0 0) 8 := s3.1
          have hl10 : fL (mLayL r (nI hN) O (uI μ 8 0 0 0) (lN b) 0).1 10 = fL μ 10 := s3.2.2.2.2.2.2
          have hdk := hrel.1.2.2.2.2.2.2.2.2.2.2.2.2 dN' hd
          have hfil : O.filter (hold (dLay (rBeg σ r (nI hN) (lN b)) r (O.filter (hold σ hN)) (lN b) 0).1 hN) = O.filter (hold σ hN) := List.filter_congr (fun g _ => hold_of (s2.ik 1 (by decide)))
          have htog := tog_eq (h := hN) hrel
          rw [hfil] at htog
          simp only []
          generalize dLay (rBeg σ r (nI hN) (lN b)) r (O.filter (hold σ hN)) (lN b) 0 = C at *
          generalize mLayL r (nI hN) O (uI μ 8 0 0 0) (lN b) 0 = M at *
          rw [s1]
          by_cases c5 : M.2 = true
          · rw [if_pos c5, if_pos c5, hdk.1]
            by_cases c6 : fI M.1 9 18 dN' = 0
            · rw [if_pos c6, if_pos c6]
              refine ⟨?_, fun _ => rfl, hl10, n, r + 1, O, ?_⟩
              · show fI (uI (uI M.1 8 0 15 (nI (r + 1))) 9 12 (r + 1) (nI hN)) 8 0 0 = 0
                have : fI M.1 8 0 0 = 0 := by rw [h80]; rfl
                exact this
              · show Rel (kKeep C.1 r (pN C.1 r)) _ n (r + 1) O
                rw [pN_of s2.p s2.q4]
                exact Rel_keep hrel (by omega) s4 s2.q4 s2.p (s5 c5) s6 s7
            · rw [if_neg c6, if_neg c6]
              refine ⟨?_, fun _ => rfl, hl10, n, r, O, ?_⟩
              · show fI M.1 8 0 0 = 0
                rw [h80]; rfl
              · have hdR := Rel_desk (d := dN') (x := 0) (y := fI M.1 9 19 dN' + 1) hrel hd
                have := Rel_drM (ν := uI (uI (uI M.1 9 18 dN' 0) 9 19 dN' (fI M.1 9 19 dN' + 1)) 9 15 (r + 1) 0) hdR (mr_15 ⟨rfl, fun _ _ _ => rfl, fun _ _ => rfl, fun _ _ => rfl, fun _ _ => rfl, fun _ _ => rfl, rfl⟩)
                show Rel (uI (uI C.1 7 3 dN' 0) 7 4 dN' (fI C.1 7 4 dN' + 1)) _ n r O
                rw [hdk.2]
                exact this
          · rw [if_neg c5, if_neg c5]
            refine ⟨?_, fun _ => ?_, hl10, n, r, O, hrel⟩
            · show fI M.1 8 0 0 = 0
              rw [h80]; rfl
            · show (-2 - lMin (sumMay C.1 (O.filter (hold σ hN)) 0) 2000000000).toInt32 = (-2 - mTog M.1 n r (nI hN)).toInt32
              rw [htog]
      · rw [if_neg c3, if_neg (show ¬ pIn y 1 1000000000 from c3)]; exact bad 1
    · rw [if_neg c2, if_neg c2]; exact bad 1
  · rw [if_neg c1, if_neg (fun q => c1 (desk_iff.mpr q))]; exact bad 1

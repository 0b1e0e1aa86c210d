/-! THE TIE of the class's state and the model's -/
def hold (σ : CS) (h g : Nat) : Bool := decide (fI σ 1 g 1 = nI h)
def GS (σ μ : CS) (i : Nat) : Prop := fI σ 1 i 0 = nI (i + 1) ∧ fI σ 1 i 1 = fI μ 9 0 (i + 1) ∧ (∃ h, h < 8 ∧ fI σ 1 i 1 = nI h) ∧ fI σ 1 i 3 = fI μ 9 4 (i + 1) ∧ (∃ u d : Nat, u ≤ d ∧ 1 ≤ d ∧ d ≤ 100 ∧ fI σ 2 i 0 = nI u ∧ fI σ 2 i 1 = nI d ∧ fI μ 9 2 (i + 1) = nI u ∧ fI μ 9 3 (i + 1) = nI d) ∧ fI σ 3 i 0 = fI μ 9 5 (i + 1)
def GM (σ μ : CS) (i : Nat) : Prop := (∃ a : Nat, a ≤ 1000000000 ∧ fL σ 1 i 5 = lN a ∧ fL μ 9 1 (i + 1) = lN a) ∧ fL σ 1 i 7 = fL μ 9 8 (i + 1) ∧ fI σ 1 i 9 = fI μ 9 6 (i + 1) ∧
  ((fI μ 9 6 (i + 1) = 0 ∧ fI σ 3 i 3 = 0 ∧ fL σ 3 i 1 = fL μ 9 9 (i + 1) ∧ fI σ 3 i 2 = fI μ 9 10 (i + 1) ∧ fI μ 9 10 (i + 1) ≤ fI μ 8 0 2) ∨ (¬ fI μ 9 6 (i + 1) = 0 ∧ ¬ fI σ 3 i 3 = 0 ∧ fL σ 3 i 1 = fL μ 9 9 (i + 1) + mRun μ (i + 1) ∧ fI μ 9 7 (i + 1) ≤ fI μ 8 0 2))
def GU (σ μ : CS) (r i : Nat) : Prop := fL σ 1 i 6 = mNd μ (i + 1) r ∧ fI σ 1 i 8 = mUs μ (i + 1) r
def RR (σ μ : CS) (n j : Nat) : Prop := (∃ p, p ≤ 4 ∧ fI σ 4 j 2 = nI p ∧ fI μ 9 15 (j + 1) = nI p ∧ Tie σ μ n j p) ∧ fI σ 4 j 3 = fI μ 9 12 (j + 1) ∧ fL σ 4 j 4 = fL μ 9 13 (j + 1) ∧ fI σ 4 j 5 = fI μ 9 14 (j + 1) ∧ 0 ≤ fI μ 9 14 (j + 1)
def BB (σ μ : CS) (n r : Nat) : Prop := n ≤ 20 ∧ r ≤ 60 ∧ nG σ = n ∧ nR σ = r + 1 ∧ fI σ 0 0 6 = nI n ∧ fI σ 0 0 7 = nI r ∧ fI μ 8 0 1 = nI n ∧ fI μ 8 0 15 = nI r ∧ fI σ 0 0 9 = fI μ 8 0 2 ∧ fR σ 0 0 5 = some r ∧ (∀ i, i < n → fR σ 7 0 i = some i) ∧ (∀ j, j < r → fR σ 7 2 j = some j) ∧ ∀ d, d < 4 → fI σ 7 3 d = fI μ 9 18 d ∧ fI σ 7 4 d = fI μ 9 19 d
def OO (σ μ : CS) (n : Nat) (O : List Nat) : Prop := Or μ n O ∧ O.Nodup ∧ (∀ g, g < n → g ∈ O) ∧ ∀ h, h < 8 → Ch σ (fR σ 7 1 h) (O.filter (hold σ h))
def DD (σ : CS) (n r : Nat) : Prop := (∃ p, p ≤ 4 ∧ fI σ 4 r 2 = nI p ∧ ∀ k, k < p → ∃ g, fR σ 5 r k = some g ∧ g < n) ∧ fI σ 4 r 5 = 0
def MM (μ : CS) (n r : Nat) : Prop := (∀ j, r < j → fI μ 9 14 j = 0) ∧ (∀ g, n < g → fI μ 9 6 g = 0 ∧ fL μ 9 8 g = 0 ∧ fL μ 9 9 g = 0) ∧ fI μ 9 15 0 = nI 0
def Rel (σ μ : CS) (n r : Nat) (O : List Nat) : Prop := BB σ μ n r ∧ RG σ ∧ OO σ μ n O ∧ (∀ i, i < n → GS σ μ i ∧ GM σ μ i ∧ GU σ μ r i) ∧ (∀ j, j < r → RR σ μ n j) ∧ DD σ n r ∧ fI σ 0 0 8 = mLive μ r ∧ MM μ n r
theorem GS_of {σ σ' μ μ' : CS} {i : Nat} (h : GS σ μ i) (c0 : fI σ' 1 i 0 = fI σ 1 i 0) (c1 : fI σ' 1 i 1 = fI σ 1 i 1) (c3 : fI σ' 1 i 3 = fI σ 1 i 3) (c2 : fI σ' 2 i = fI σ 2 i) (c30 : fI σ' 3 i 0 = fI σ 3 i 0) (m0 : fI μ' 9 0 (i + 1) = fI μ 9 0 (i + 1)) (m4 : fI μ' 9 4 (i + 1) = fI μ 9 4 (i + 1)) (m2 : fI μ' 9 2 (i + 1) = fI μ 9 2 (i + 1)) (m3 : fI μ' 9 3 (i + 1) = fI μ 9 3 (i + 1)) (m5 : fI μ' 9 5 (i + 1) = fI μ 9 5 (i + 1)) : GS σ' μ' i := by
  unfold GS at *
  rw [c0, c1, c3, c2, c30, m0, m4, m2, m3, m5]
  exact h
theorem mRun_of {μ μ' : CS} {g : Nat} (h6 : fI μ' 9 6 g = fI μ 9 6 g) (h7 : fI μ' 9 7 g = fI μ 9 7 g) (h10 : fI μ' 9 10 g = fI μ 9 10 g) (h5 : fI μ' 9 5 g = fI μ 9 5 g) (h1 : fL μ' 9 1 g = fL μ 9 1 g) (h2 : fI μ' 8 0 2 = fI μ 8 0 2) : mRun μ' g = mRun μ g := by
  unfold mRun; rw [h6, h7, h10, h5, h1, h2]
theorem GM_of {σ σ' μ μ' : CS} {i : Nat} (h : GM σ μ i) (c5 : fL σ' 1 i 5 = fL σ 1 i 5) (c7 : fL σ' 1 i 7 = fL σ 1 i 7) (c9 : fI σ' 1 i 9 = fI σ 1 i 9) (c3 : fI σ' 3 i = fI σ 3 i) (c31 : fL σ' 3 i 1 = fL σ 3 i 1) (m1 : fL μ' 9 1 (i + 1) = fL μ 9 1 (i + 1)) (m8 : fL μ' 9 8 (i + 1) = fL μ 9 8 (i + 1)) (m9 : fL μ' 9 9 (i + 1) = fL μ 9 9 (i + 1)) (m6 : fI μ' 9 6 (i + 1) = fI μ 9 6 (i + 1)) (m7 : fI μ' 9 7 (i + 1) = fI μ 9 7 (i + 1)) (m10 : fI μ' 9 10 (i + 1) = fI μ 9 10 (i + 1)) (m5 : fI μ' 9 5 (i + 1) = fI μ 9 5 (i + 1)) (t : fI μ' 8 0 2 = fI μ 8 0 2) : GM σ' μ' i := by
  unfold GM at *
  rw [c5, c7, c9, c3, c31, m1, m8, m9, m6, m7, m10, t, mRun_of m6 m7 m10 m5 m1 t]
  exact h
theorem Tie_of {σ σ' μ μ' : CS} {n n' j p : Nat} (h : Tie σ μ n j p) (hp : p ≤ 4) (hn : n ≤ n') (c5 : fR σ' 5 j = fR σ 5 j) (c6 : fL σ' 6 j = fL σ 6 j) (m16 : ∀ k, k < 4 → fI μ' 9 16 (4 * (j + 1) + k) = fI μ 9 16 (4 * (j + 1) + k)) (m17 : ∀ k, k < 4 → fL μ' 9 17 (4 * (j + 1) + k) = fL μ 9 17 (4 * (j + 1) + k)) : Tie σ' μ' n' j p := by
  intro k hk
  obtain ⟨g, c, h1, h2, h3, h4, h5, h6, h7⟩ := h k hk
  exact ⟨g, c, by rw [c5]; exact h1, by omega, by rw [m16 k (by omega)]; exact h3, by rw [c6]; exact h4, by rw [m17 k (by omega)]; exact h5, h6, h7⟩
theorem RR_of {σ σ' μ μ' : CS} {n n' j : Nat} (h : RR σ μ n j) (hn : n ≤ n') (c4 : fI σ' 4 j = fI σ 4 j) (c44 : fL σ' 4 j = fL σ 4 j) (c5 : fR σ' 5 j = fR σ 5 j) (c6 : fL σ' 6 j = fL σ 6 j) (m15 : fI μ' 9 15 (j + 1) = fI μ 9 15 (j + 1)) (m12 : fI μ' 9 12 (j + 1) = fI μ 9 12 (j + 1)) (m14 : fI μ' 9 14 (j + 1) = fI μ 9 14 (j + 1)) (m13 : fL μ' 9 13 (j + 1) = fL μ 9 13 (j + 1)) (m16 : ∀ k, k < 4 → fI μ' 9 16 (4 * (j + 1) + k) = fI μ 9 16 (4 * (j + 1) + k)) (m17 : ∀ k, k < 4 → fL μ' 9 17 (4 * (j + 1) + k) = fL μ 9 17 (4 * (j + 1) + k)) : RR σ' μ' n' j := by
  obtain ⟨⟨p, hp, e1, e2, ht⟩, h2⟩ := h
  refine ⟨⟨p, hp, by rw [c4]; exact e1, by rw [m15]; exact e2, Tie_of ht hp hn c5 c6 m16 m17⟩, ?_⟩
  rw [c4, c44, m12, m13, m14]
  exact h2
theorem WFm_of {σ μ : CS} {n r : Nat} {O : List Nat} (h : Rel σ μ n r O) : WFm μ n r := by
  obtain ⟨hB, hR, hO, hG, hRR, hD, hL, hM⟩ := h
  obtain ⟨b1, b2, b3, b4, b5, b6, b7, b8, b9, b10, b11, b12, b13⟩ := hB
  refine ⟨b1, b2, b7, b8, fun k hk => ?_, fun j hj => ?_, fun j k h1 h2 hk => ?_, fun g h1 h2 => ?_⟩
  · have hl : k < O.length := by rw [hO.1.1]; exact hk
    obtain ⟨q1, q2⟩ := hO.1.2 k _ (List.getElem?_eq_getElem hl)
    exact ⟨_, by omega, by omega, q2⟩
  · cases j with
    | zero => exact ⟨0, by omega, hM.2.2⟩
    | succ j => obtain ⟨p, hp, -, e, -⟩ := (hRR j (by omega)).1; exact ⟨p, hp, e⟩
  · cases j with
    | zero => omega
    | succ j =>
      obtain ⟨p, hp, -, e, ht⟩ := (hRR j (by omega)).1
      rw [mP_of e hp] at hk
      obtain ⟨g, c, t1, t2, t3, -⟩ := ht k hk
      exact ⟨g + 1, by omega, by omega, t3⟩
  · cases g with
    | zero => omega
    | succ g =>
      obtain ⟨u, d, k1, k2, k3, -, -, -, k4⟩ := (hG g (by omega)).1.2.2.2.2.1
      rw [k4]
      exact nI_ne0 (by omega) (by omega)
theorem WFc_of {σ μ : CS} {n r : Nat} {O : List Nat} (h : Rel σ μ n r O) : WFc σ n r := by
  obtain ⟨hB, hR, hO, hG, hRR, hD, hL, hM⟩ := h
  obtain ⟨b1, b2, b3, b4, b5, b6, b7, b8, b9, b10, b11, b12, b13⟩ := hB
  refine ⟨b3, b4, b1, b2, b5, b6, b10, b11, b12, fun i hi => (hG i hi).1.2.2.1, fun j hj => ?_⟩
  by_cases e : j = r
  · subst e; exact hD.1
  · obtain ⟨p, hp, e1, e2, ht⟩ := (hRR j (by omega)).1
    exact ⟨p, hp, e1, fun k hk => by obtain ⟨g, c, t1, t2, -⟩ := ht k hk; exact ⟨g, t1, t2⟩⟩
theorem O_lt {μ : CS} {n : Nat} {O : List Nat} (h : Or μ n O) {g : Nat} (hg : g ∈ O) : g < n := by
  obtain ⟨k, hk⟩ := List.getElem?_of_mem hg
  exact (h.2 k g hk).1
theorem OO_of {σ σ' μ μ' : CS} {n : Nat} {O : List Nat} (h : OO σ μ n O) (hr1 : fR σ' 1 = fR σ 1) (hr7 : fR σ' 7 1 = fR σ 7 1) (hg : nG σ' = nG σ) (hh : ∀ g, fI σ' 1 g 1 = fI σ 1 g 1) (m11 : fI μ' 9 11 = fI μ 9 11) : OO σ' μ' n O := by
  obtain ⟨o1, o2, o3, o4⟩ := h
  refine ⟨?_, o2, o3, fun h hh8 => ?_⟩
  · unfold Or at *; rw [m11]; exact o1
  · have e : hold σ' h = hold σ h := by funext g; unfold hold; rw [hh g]
    rw [e, hr7]
    exact Ch_of hr1 hg _ _ (o4 h hh8)
/-- sums that stay -/
theorem nd_same {μ μ' : CS} {n r g : Nat} (hw : WFm μ n r) (h2 : fI μ' 9 2 g = fI μ 9 2 g) (h3 : fI μ' 9 3 g = fI μ 9 3 g) (h15 : ∀ j, j ≤ r → fI μ' 9 15 j = fI μ 9 15 j) (h16 : ∀ q, q < 4 * r + 4 → fI μ' 9 16 q = fI μ 9 16 q) (h17 : ∀ q, q < 4 * r + 4 → fL μ' 9 17 q = fL μ 9 17 q) : mNd μ' g r = mNd μ g r ∧ mUs μ' g r = mUs μ g r := by
  have hp : ∀ j, j ≤ r → mP μ j ≤ 4 := fun j hj => by obtain ⟨p, hp, e⟩ := hw.2.2.2.2.2.1 j hj; rw [mP_of e hp]; exact hp
  refine ⟨mNd_of r fun j h1 hj => cN_of h2 h3 (h15 j hj) fun k hk => ?_, mUs_of r fun j h1 hj => cU_of (h15 j hj) fun k hk => ?_⟩
  · have := hp j hj; exact ⟨h16 _ (by omega), h17 _ (by omega)⟩
  · have := hp j hj; exact h16 _ (by omega)
/-- nothing of the tie sees what a call threw, nor the law's own array -/
def Sm (ν μ : CS) : Prop := fI ν 9 = fI μ 9 ∧ fL ν 9 = fL μ 9 ∧ fI ν 8 0 1 = fI μ 8 0 1 ∧ fI ν 8 0 2 = fI μ 8 0 2 ∧ fI ν 8 0 15 = fI μ 8 0 15
theorem Rel_sm {σ μ ν : CS} {n r : Nat} {O : List Nat} (h : Rel σ μ n r O) (s : Sm ν μ) : Rel σ ν n r O := by
  have hw := WFm_of h
  obtain ⟨hB, hR, hO, hG, hRR, hD, hL, hM⟩ := h
  obtain ⟨s1, s2, s3, s4, s5⟩ := s
  refine ⟨?_, hR, ?_, fun i hi => ?_, fun j hj => ?_, hD, ?_, ?_⟩
  · unfold BB at *; rw [s1, s3, s4, s5]; exact hB
  · unfold OO Or at *; rw [s1]; exact hO
  · obtain ⟨g1, g2, g3⟩ := hG i hi
    refine ⟨GS_of g1 rfl rfl rfl rfl rfl (by rw [s1]) (by rw [s1]) (by rw [s1]) (by rw [s1]) (by rw [s1]), GM_of g2 rfl rfl rfl rfl rfl (by rw [s2]) (by rw [s2]) (by rw [s2]) (by rw [s1]) (by rw [s1]) (by rw [s1]) (by rw [s1]) s4, ?_⟩
    have e := nd_same (μ' := ν) (g := i + 1) hw (by rw [s1]) (by rw [s1]) (fun _ _ => by rw [s1]) (fun _ _ => by rw [s1]) (fun _ _ => by rw [s2])
    unfold GU at *; rw [e.1, e.2]; exact g3
  · exact RR_of (hRR j hj) (Nat.le_refl _) rfl rfl rfl rfl (by rw [s1]) (by rw [s1]) (by rw [s1]) (by rw [s2]) (fun _ _ => by rw [s1]) (fun _ _ => by rw [s2])
  · rw [mLive_of r (μ := μ) (fun _ _ _ => by rw [s1])]; exact hL
  · unfold MM at *; rw [s1, s2]; exact hM
theorem Rel_th {σ μ : CS} {n r : Nat} {O : List Nat} {y : Int32} (h : Rel σ μ n r O) : Rel σ (uI μ 8 0 0 y) n r O := Rel_sm h ⟨rfl, rfl, rfl, rfl, rfl⟩
theorem Rel_out {σ μ : CS} {n r : Nat} {O : List Nat} {y : Int64} (h : Rel σ μ n r O) : Rel σ (uL μ 10 0 0 y) n r O := Rel_sm h ⟨rfl, rfl, rfl, rfl, rfl⟩
/-- tick -/
theorem Rel_tick {σ μ : CS} {n r : Nat} {O : List Nat} {x : Int32} (h : Rel σ μ n r O) (hx : fI μ 8 0 2 ≤ x) : Rel (uI σ 0 0 9 x) (uI μ 8 0 2 x) n r O := by
  have hw := WFm_of h
  obtain ⟨hB, hR, hO, hG, hRR, hD, hL, hM⟩ := h
  refine ⟨?_, hR, ?_, fun i hi => ?_, fun j hj => ?_, hD, ?_, ?_⟩
  · obtain ⟨b1, b2, b3, b4, b5, b6, b7, b8, b9, b10, b11, b12, b13⟩ := hB
    exact ⟨b1, b2, b3, b4, b5, b6, b7, b8, rfl, b10, b11, b12, b13⟩
  · exact OO_of hO rfl rfl rfl (fun _ => rfl) rfl
  · obtain ⟨g1, g2, g3⟩ := hG i hi
    refine ⟨g1, ?_, ?_⟩
    · obtain ⟨a1, a2, a3, a4⟩ := g2
      refine ⟨a1, a2, a3, ?_⟩
      rcases a4 with ⟨q1, q2, q3, q4, q5⟩ | ⟨q1, q2, q3, q4⟩
      · exact Or.inl ⟨q1, q2, q3, q4, Int32.le_trans q5 hx⟩
      · refine Or.inr ⟨q1, q2, ?_, Int32.le_trans q4 hx⟩
        rw [show fL (uI σ 0 0 9 x) 3 i 1 = fL σ 3 i 1 from rfl, q3]
        congr 1
        have q1' : ¬ fI (uI μ 8 0 2 x) 9 6 (i + 1) = 0 := q1
        unfold mRun
        rw [if_neg q1, if_neg q1']
        rfl
    · have e := nd_same (μ' := uI μ 8 0 2 x) (g := i + 1) hw rfl rfl (fun _ _ => rfl) (fun _ _ => rfl) (fun _ _ => rfl)
      unfold GU at *; rw [e.1, e.2]; exact g3
  · exact RR_of (hRR j hj) (Nat.le_refl _) rfl rfl rfl rfl rfl rfl rfl rfl (fun _ _ => rfl) (fun _ _ => rfl)
  · exact hL.trans (mLive_of (ν := uI μ 8 0 2 x) (μ := μ) r (fun _ _ _ => rfl)).symm
  · exact hM
/-- fails, and a desk's failure -/
theorem Rel_desk {σ μ : CS} {n r : Nat} {O : List Nat} {d : Nat} {x y : Int32} (h : Rel σ μ n r O) (hd : d < 4) : Rel (uI (uI σ 7 3 d x) 7 4 d y) (uI (uI μ 9 18 d x) 9 19 d y) n r O := by
  have hw := WFm_of h
  obtain ⟨hB, hR, hO, hG, hRR, hD, hL, hM⟩ := h
  refine ⟨?_, hR, ?_, fun i hi => ?_, fun j hj => ?_, hD, ?_, ?_⟩
  · obtain ⟨b1, b2, b3, b4, b5, b6, b7, b8, b9, b10, b11, b12, b13⟩ := hB
    refine ⟨b1, b2, b3, b4, b5, b6, b7, b8, b9, b10, b11, b12, fun e he => ?_⟩
    have := b13 e he
    simp only [fI_uI, up3_val]
    by_cases z : e = d
    · subst z; simp [this]
    · simp [z, this]
  · exact OO_of hO rfl rfl rfl (fun _ => rfl) rfl
  · obtain ⟨g1, g2, g3⟩ := hG i hi
    refine ⟨g1, g2, ?_⟩
    have e := nd_same (μ' := uI (uI μ 9 18 d x) 9 19 d y) (g := i + 1) hw rfl rfl (fun _ _ => rfl) (fun _ _ => rfl) (fun _ _ => rfl)
    unfold GU at *; rw [e.1, e.2]; exact g3
  · exact RR_of (hRR j hj) (Nat.le_refl _) rfl rfl rfl rfl rfl rfl rfl rfl (fun _ _ => rfl) (fun _ _ => rfl)
  · exact hL.trans (mLive_of (ν := uI (uI μ 9 18 d x) 9 19 d y) (μ := μ) r (fun _ _ _ => rfl)).symm
  · exact hM

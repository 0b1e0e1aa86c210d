/-! CALL BY CALL: both answer alike, and stay tied -/
theorem ch_L {σ μ : CS} {n r : Nat} {O : List Nat} (h : Rel σ μ n r O) : ∀ x, x < 8 → Ch σ (fR σ 7 1 x) (O.filter (hold σ x)) := h.2.2.1.2.2.2
theorem op_tick {σ μ : CS} {n r : Nat} {O : List Nat} {x : Int32} (h : Rel σ μ n r O) : (cTick σ x).1 = (cTickM μ x).1 ∧ Rel (cTick σ x).2 (cTickM μ x).2 n r O := by
  have e : fI σ 0 0 9 = fI μ 8 0 2 := h.1.2.2.2.2.2.2.2.2.1
  unfold cTick cTickM
  rw [e]
  split
  · exact ⟨rfl, Rel_th h⟩
  · rename_i h1
    split
    · exact ⟨rfl, Rel_tick (Rel_th (y := 0) h) (Int32.not_lt.mp h1)⟩
    · exact ⟨rfl, Rel_th h⟩
theorem desk_iff {x : Int32} : pDesk x ↔ pIn x.toInt64 0 3 := by
  have e0 : (0 : Int64).toInt = 0 := rfl
  have e3 : (3 : Int64).toInt = 3 := rfl
  have f0 : (0 : Int32).toInt = 0 := rfl
  have f4 : (4 : Int32).toInt = 4 := rfl
  unfold pDesk pIn
  rw [Int32.lt_iff_toInt_lt, Int32.le_iff_toInt_le, Int64.lt_iff_toInt_lt, Int64.lt_iff_toInt_lt, Int32.toInt_toInt64, e0, e3, f0, f4]
  omega
theorem Rel_desk1 {σ μ : CS} {n r : Nat} {O : List Nat} {d : Nat} {x : Int32} (h : Rel σ μ n r O) (hd : d < 4) : Rel (uI σ 7 3 d x) (uI μ 9 18 d x) n r O := by
  have h1 := Rel_desk (x := x) (y := fI σ 7 4 d) h hd
  have e1 : uI (uI σ 7 3 d x) 7 4 d (fI σ 7 4 d) = uI σ 7 3 d x := by
    unfold uI
    congr 1
    funext k i f
    simp only [fI, up3_val]
    split
    · rename_i q
      obtain ⟨rfl, rfl, rfl⟩ := q
      simp
    · rfl
  have hm : fI σ 7 4 d = fI μ 9 19 d := (h.1.2.2.2.2.2.2.2.2.2.2.2.2 d hd).2
  have e2 : uI (uI μ 9 18 d x) 9 19 d (fI σ 7 4 d) = uI μ 9 18 d x := by
    rw [hm]
    unfold uI
    congr 1
    funext k i f
    simp only [fI, up3_val]
    split
    · rename_i q
      obtain ⟨rfl, rfl, rfl⟩ := q
      simp
    · rfl
  rw [e1, e2] at h1
  exact h1
theorem op_fails {σ μ : CS} {n r : Nat} {O : List Nat} {x on : Int32} (h : Rel σ μ n r O) : (cFails σ x on).1 = (cFailsM μ x on).1 ∧ Rel (cFails σ x on).2 (cFailsM μ x on).2 n r O := by
  unfold cFails cFailsM
  by_cases hd : pDesk x
  · have hd2 := desk_iff.mp hd
    rw [if_pos hd, if_pos hd2]
    obtain ⟨k, hk, rfl⟩ := desk_in hd
    rw [nI_clamp (by omega)]
    rw [(h.1.2.2.2.2.2.2.2.2.2.2.2.2 k hk).1]
    split
    · exact ⟨rfl, Rel_th h⟩
    · exact ⟨rfl, Rel_desk1 (Rel_th h) hk⟩
  · have hd2 := fun q => hd (desk_iff.mpr q)
    rw [if_neg hd, if_neg hd2]
    exact ⟨rfl, Rel_th h⟩
theorem op_count {σ μ : CS} {n r : Nat} {O : List Nat} {x : Int32} (h : Rel σ μ n r O) : cCount σ x = cCountM μ r x := by
  obtain ⟨b1, b2, b3, b4, b5, b6, b7, b8, b9, b10, b11, b12, b13⟩ := h.1
  have hl := h.2.2.2.2.2.2.1
  unfold cCount cCountM
  by_cases hx : x < 10
  · rw [if_neg (fun q => q.1 hx), if_pos hx, b5, b6, b7, b8, b9, hl]
  · rw [if_neg hx]
    have h0 : ¬ x < 0 := fun q => hx (Int32.lt_trans q (by decide))
    obtain ⟨j, hj, rfl⟩ := nI_of h0
    have hj10 : ¬ j < 10 := fun q => hx ((nI_ltI (b := 10) hj (by decide)).mpr q)
    have e : nI j - 10 = nI (j - 10) := pk_sub (a := j) (b := 10) (by omega)
    rw [e]
    by_cases h14 : j < 14
    · have d4 : pDesk (nI (j - 10)) := ⟨nI_pos (by omega), fun q => by have := (nI_leI (a := 4) (b := j - 10) (by decide) (by omega)).mp q; omega⟩
      rw [if_pos ⟨hx, d4⟩, if_neg (fun q => by have := (nI_leI (a := 14) (b := j) (by decide) hj).mp q; omega), nI_clamp (by omega)]
      exact (b13 (j - 10) (by omega)).2
    · have d4 : ¬ pDesk (nI (j - 10)) := fun q => q.2 ((nI_leI (a := 4) (b := j - 10) (by decide) (by omega)).mpr (by omega))
      have ne : ∀ v : Nat, v < 4 → ¬ nI j = nI v := fun v hv q => by have := (nI_eq hj (by omega)).mp q; omega
      rw [if_neg (fun q => d4 q.2), if_pos (show (14 : Int32) ≤ nI j from (nI_leI (a := 14) (b := j) (by decide) hj).mpr (by omega)), if_neg (show ¬ nI j = 0 from ne 0 (by omega)), if_neg (show ¬ nI j = 1 from ne 1 (by omega)), if_neg (show ¬ nI j = 2 from ne 2 (by omega)), if_neg (show ¬ nI j = 3 from ne 3 (by omega))]
/-- what a guarantee may cover -/
theorem unn_eq {σ μ : CS} {i r : Nat} (hM : GM σ μ i) (hU : GU σ μ r i) : gUnn σ i = mFree μ (i + 1) r := by
  obtain ⟨⟨a, _, a1, a2⟩, _⟩ := hM
  unfold gUnn mFree
  rw [hU.1, a1, a2]
  by_cases q : lN a - mNd μ (i + 1) r < 0
  · rw [if_pos q, if_neg (fun w => Int64.lt_irrefl (Int64.lt_of_lt_of_le q w))]
  · rw [if_neg q, if_pos (Int64.not_lt.mp q)]
theorem may_eq {σ μ : CS} {i r : Nat} (hS : GS σ μ i) (hM : GM σ μ i) (hU : GU σ μ r i) : gMay σ i = mMay μ (i + 1) r := by
  obtain ⟨s1, s2, s3, s4, ⟨u, d, _, _, _, k4, k5, k6, k7⟩, s6⟩ := hS
  unfold gMay mMay sMost
  rw [unn_eq hM hU, hM.2.2.1, s4, hU.2, k4, k5, k6, k7]
theorem mMay_th {μ : CS} {n r g : Nat} {y : Int32} (hw : WFm μ n r) : mMay (uI μ 8 0 0 y) g r = mMay μ g r := by
  have e := nd_same (μ' := uI μ 8 0 0 y) (g := g) hw rfl rfl (fun _ _ => rfl) (fun _ _ => rfl) (fun _ _ => rfl)
  unfold mMay mFree
  rw [e.1, e.2]
  rfl
def sumF (f : Nat → Int64) : List Nat → Int64
  | [] => 0
  | g :: t => f g + sumF f t
theorem sumF_perm {f : Nat → Int64} {a b : List Nat} (h : a.Perm b) : sumF f a = sumF f b := by
  induction h with
  | nil => rfl
  | cons x _ ih => rw [sumF, sumF, ih]
  | swap x y l => rw [sumF, sumF, sumF, sumF]; grind
  | trans _ _ ih1 ih2 => exact ih1.trans ih2
theorem sumF_app {f : Nat → Int64} : ∀ (a b : List Nat), sumF f (a ++ b) = sumF f a + sumF f b
  | [], b => by simp [sumF]
  | g :: t, b => by rw [List.cons_append, sumF, sumF, sumF_app t b]; grind
theorem sumMay_F {σ : CS} : ∀ (t : List Nat) (v : Int64), sumMay σ t v = v + sumF (gMay σ) t
  | [], v => by simp [sumMay, sumF]
  | g :: t, v => by rw [sumMay, sumMay_F t, sumF]; grind
theorem sumF_filter {f : Nat → Int64} {p : Nat → Bool} : ∀ t : List Nat, sumF f (t.filter p) = sumF (fun g => if p g = true then f g else 0) t
  | [] => rfl
  | g :: t => by
    by_cases q : p g = true
    · rw [List.filter_cons_of_pos q, sumF, sumF, sumF_filter t, if_pos q]
    · rw [List.filter_cons_of_neg q, sumF, sumF_filter t, if_neg q]; grind
theorem sumF_congr {f f' : Nat → Int64} : ∀ t : List Nat, (∀ g ∈ t, f g = f' g) → sumF f t = sumF f' t
  | [], _ => rfl
  | g :: t, h => by rw [sumF, sumF, h g List.mem_cons_self, sumF_congr t (fun x hx => h x (List.mem_cons_of_mem _ hx))]
theorem mTg_range {μ : CS} {r : Nat} {x : Int32} : ∀ n, mTg μ r x n = sumF (fun g => if fI μ 9 0 (g + 1) = x then mMay μ (g + 1) r else 0) (List.range n)
  | 0 => rfl
  | n + 1 => by rw [mTg, mTg_range n, List.range_succ, sumF_app, sumF, sumF]; grind
theorem O_perm {σ μ : CS} {n : Nat} {O : List Nat} (h : OO σ μ n O) : O.Perm (List.range n) := by
  refine (List.perm_ext_iff_of_nodup h.2.1 List.nodup_range).mpr (fun a => ?_)
  rw [List.mem_range]
  exact ⟨fun q => O_lt h.1 q, fun q => h.2.2.1 a q⟩
theorem hold_iff {σ μ : CS} {h g : Nat} (hS : GS σ μ g) : hold σ h g = true ↔ fI μ 9 0 (g + 1) = nI h := by
  unfold hold
  rw [decide_eq_true_iff, hS.2.1]
theorem tog_eq {σ μ : CS} {n r h : Nat} {O : List Nat} (hr : Rel σ μ n r O) : lMin (sumMay σ (O.filter (hold σ h)) 0) 2000000000 = mTog μ n r (nI h) := by
  have e : sumMay σ (O.filter (hold σ h)) 0 = mTg μ r (nI h) n := by
    rw [sumMay_F, sumF_filter, mTg_range, sumF_perm (O_perm hr.2.2.1)]
    rw [Int64.zero_add]
    refine sumF_congr _ (fun g hg => ?_)
    have hg := List.mem_range.mp hg
    obtain ⟨g1, g2, g3⟩ := hr.2.2.2.1 g hg
    rw [may_eq g1 g2 g3]
    by_cases q : hold σ h g = true
    · rw [if_pos q, if_pos ((hold_iff g1).mp q)]
    · rw [if_neg q, if_neg (fun w => q ((hold_iff g1).mpr w))]
  rw [e]
  unfold lMin mTog
  by_cases q : mTg μ r (nI h) n ≤ 2000000000
  · rw [if_pos q, if_neg (fun w => Int64.lt_irrefl (Int64.lt_of_lt_of_le w q))]
  · rw [if_neg q, if_pos (Int64.not_le.mp q)]
theorem op_free {σ μ : CS} {n r : Nat} {O : List Nat} {x : Int32} (h : Rel σ μ n r O) : cFree σ (fun k => O.filter (hold σ k)) x = (if pHold x then mTog (uI μ 8 0 0 0) n r x else -1) := by
  unfold cFree
  split
  · rename_i hh
    obtain ⟨k, hk, rfl⟩ := hold_in hh
    rw [nI_clamp (by omega)]
    exact tog_eq (Rel_th h)
  · rfl
theorem ls_no {μ : CS} {x : Int32} : ∀ (t : List Nat) (left : Int32), (∀ g ∈ t, ¬ fI μ 9 0 (g + 1) = x) → mLsL μ x t left = -1
  | [], _, _ => rfl
  | g :: t, left, h => by
    rw [mLsL, if_neg (h g List.mem_cons_self)]
    exact ls_no t _ (fun a ha => h a (List.mem_cons_of_mem _ ha))
theorem ls_neg {μ : CS} {x : Int32} : ∀ (t : List Nat) (left : Int32), (∀ m, m < t.length → ¬ left = nI m) → mLsL μ x t left = -1
  | [], _, _ => rfl
  | g :: t, left, h => by
    rw [mLsL]
    split
    · rw [if_neg (show ¬ left = 0 from h 0 (by simp))]
      exact ls_neg t _ (fun m hm q => h (m + 1) (by simp; omega) (by rw [← nI_1, ← q]; grind))
    · exact ls_neg t _ (fun m hm q => h m (by simp; omega) (by rw [← q]; grind))
theorem ls_eq {σ μ : CS} {n h : Nat} {i : Int32} (hG : ∀ g, g < n → GS σ μ g) : ∀ (t : List Nat) (a left : Int32), (∀ g ∈ t, g < n) → left = i - a → lsAt σ i (t.filter (hold σ h)) a = mLsL μ (nI h) t left
  | [], _, _, _, _ => rfl
  | g :: t, a, left, hm, e => by
    have hg := hG g (hm g List.mem_cons_self)
    have hm2 : ∀ x ∈ t, x < n := fun x hx => hm x (List.mem_cons_of_mem _ hx)
    rw [mLsL]
    by_cases q : hold σ h g = true
    · rw [List.filter_cons_of_pos q, lsAt, if_pos ((hold_iff hg).mp q)]
      by_cases w : a = i
      · rw [if_pos w, if_pos (by rw [e, w, Int32.sub_self]), hg.1]
      · rw [if_neg w, if_neg (fun z => w (by grind))]
        exact ls_eq hG t _ _ hm2 (by rw [e]; grind)
    · rw [List.filter_cons_of_neg q, if_neg (fun w => q ((hold_iff hg).mpr w))]
      exact ls_eq hG t _ _ hm2 (by rw [e]; grind)
theorem op_list {σ μ : CS} {n r : Nat} {O : List Nat} {x i : Int32} (h : Rel σ μ n r O) : (if pHold x ∧ 0 ≤ i then lsAt σ i ((fun k => O.filter (hold σ k)) x.toNatClampNeg) 0 else -1) = mLsL μ x O i := by
  have hO := h.2.2.1
  have hlt : ∀ g ∈ O, g < n := fun g hg => O_lt hO.1 hg
  by_cases hh : pHold x
  · by_cases hi : 0 ≤ i
    · rw [if_pos ⟨hh, hi⟩]
      obtain ⟨k, hk, rfl⟩ := hold_in hh
      rw [nI_clamp (by omega)]
      exact ls_eq (fun g hg => (h.2.2.2.1 g hg).1) O 0 i hlt (by grind)
    · rw [if_neg (fun q => hi q.2)]
      refine (ls_neg O i (fun m hm q => hi ?_)).symm
      rw [q]
      have : O.length = n := hO.1.1
      exact nI_pos' (by have := h.1.1; omega)
  · rw [if_neg (fun q => hh q.1)]
    refine (ls_no O i (fun g hg q => hh ?_)).symm
    obtain ⟨k, hk, e⟩ := (h.2.2.2.1 g (hlt g hg)).1.2.2.1
    rw [← q, ← (h.2.2.2.1 g (hlt g hg)).1.2.1, e]
    exact hold_ok hk
theorem gIx_lt {x : Int32} {n i : Nat} (h : gIx x n = some i) (hn : n < 2 ^ 30) : i < n := by
  unfold gIx at h
  split at h
  · cases h
  · rename_i q
    obtain ⟨j, hj, e⟩ := num_in (fun w => q (Or.inl w)) (fun w => q (Or.inr w)) (by omega)
    have : i = j := by
      have := Option.some.inj h
      rw [e, nI_pred, nI_clamp (by omega)] at this
      exact this.symm
    omega
theorem op_close {σ μ : CS} {n r : Nat} {O : List Nat} {x : Int32} (h : Rel σ μ n r O) : (cClose σ n x).1 = (cCloseM μ n x).1 ∧ Rel (cClose σ n x).2 (cCloseM μ n x).2 n r O := by
  unfold cClose cCloseM
  cases hi : gIx x n with
  | none => exact ⟨rfl, Rel_th h⟩
  | some i =>
    have hin := gIx_lt hi (by have := h.1.1; omega)
    simp only []
    rw [(h.2.2.2.1 i hin).2.1.2.2.1]
    split
    · rename_i q
      exact ⟨rfl, Rel_close (Rel_th h) hin q⟩
    · exact ⟨rfl, Rel_th h⟩
theorem op_interest {σ μ : CS} {n r : Nat} {O : List Nat} {x : Int32} (h : Rel σ μ n r O) : fI (cInterestM μ n x).2 8 0 0 = (cInterest σ n x).1 ∧ ((cInterest σ n x).1 = 0 → (cInterest σ n x).2.1 = (cInterestM μ n x).1) ∧ fL (cInterestM μ n x).2 10 = fL μ 10 ∧ Rel (cInterest σ n x).2.2 (cInterestM μ n x).2 n r O := by
  unfold cInterest cInterestM
  cases hi : gIx x n with
  | none => exact ⟨rfl, fun q => absurd (show (1 : Int32) = 0 from q) (by decide), rfl, Rel_th h⟩
  | some i =>
    have hin := gIx_lt hi (by have := h.1.1; omega)
    refine ⟨rfl, fun _ => ?_, rfl, Rel_th h⟩
    obtain ⟨g1, g2, g3⟩ := h.2.2.2.1 i hin
    obtain ⟨⟨a, a5, a6, a7⟩, a2, a3, a4⟩ := g2
    have hb9 : fI σ 0 0 9 = fI μ 8 0 2 := h.1.2.2.2.2.2.2.2.2.1
    have e : mRun (uI μ 8 0 0 0) (i + 1) = mRun μ (i + 1) := mRun_of rfl rfl rfl rfl rfl rfl
    show nUp σ i (fI σ 0 0 9) (fL σ 1 i 5) = fL μ 9 9 (i + 1) + mRun (uI μ 8 0 0 0) (i + 1)
    rw [e]
    rcases a4 with ⟨q1, q2, q3, q4, q5⟩ | ⟨q1, q2, q3, q4⟩
    · unfold nUp mRun
      rw [if_pos q2, if_pos q1, q3, q4, hb9, g1.2.2.2.2.2, a6, a7, run_eq q5]
    · unfold nUp
      rw [if_neg q2, q3]

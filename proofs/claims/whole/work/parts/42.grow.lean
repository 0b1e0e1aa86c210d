/-! THE STATE GROWS: a guarantee with its share and interest, a reservation with its two arrays -/
def RG (σ : CS) : Prop := ∀ k i j g, fR σ k i j = some g → (if k = 0 ∨ (k = 7 ∧ i = 2) then g < nR σ else g < nG σ)
theorem rg_1 {σ : CS} (h : RG σ) {k i j g : Nat} (hk : ¬ (k = 0 ∨ (k = 7 ∧ i = 2))) (e : fR σ k i j = some g) : g < nG σ := by
  have := h k i j g e
  rw [if_neg hk] at this
  exact this
theorem rg_4 {σ : CS} (h : RG σ) {k i j g : Nat} (hk : k = 0 ∨ (k = 7 ∧ i = 2)) (e : fR σ k i j = some g) : g < nR σ := by
  have := h k i j g e
  rw [if_pos hk] at this
  exact this
theorem map_al {o : Option Nat} {f f' : Nat → Nat} (h : ∀ g, o = some g → f g = f' g) : o.map f = o.map f' := by
  cases o with
  | none => rfl
  | some g => exact congrArg some (h g rfl)
theorem cell_al {dA : Nat → ClassId} {al al' : Nat → Nat → Nat} {n n' r r' k i : Nat} {fi : Nat → Int32} {fl : Nat → Int64} {fr : Nat → Option Nat} (hk : k < 8)
    (hb1 : k = 1 ∨ k = 2 ∨ k = 3 → (i < n' ↔ i < n)) (hb4 : k = 4 ∨ k = 5 ∨ k = 6 → (i < r' ↔ i < r)) (a7 : ∀ j, al' 7 j = al 7 j) (a1 : k = 1 → al' 2 i = al 2 i ∧ al' 3 i = al 3 i) (a4 : k = 4 → al' 5 i = al 5 i ∧ al' 6 i = al 6 i)
    (r4 : k = 0 ∨ (k = 7 ∧ i = 2) → ∀ j g, fr j = some g → al' 4 g = al 4 g) (r1 : ¬ (k = 0 ∨ (k = 7 ∧ i = 2)) → ∀ j g, fr j = some g → al' 1 g = al 1 g) : cellC dA al' n' r' k i fi fl fr = cellC dA al n r k i fi fl fr := by
  have h8 : k = 0 ∨ k = 1 ∨ k = 2 ∨ k = 3 ∨ k = 4 ∨ k = 5 ∨ k = 6 ∨ k = 7 := by omega
  rcases h8 with rfl | rfl | rfl | rfl | rfl | rfl | rfl | rfl
  · simp only [cellC, encB, a7, map_al (r4 (Or.inl rfl) 5)]
  · have := hb1 (Or.inl rfl)
    simp only [cellC, encG, this, (a1 rfl).1, (a1 rfl).2, map_al (r1 (by omega) 10)]
  · have := hb1 (Or.inr (Or.inl rfl))
    simp only [cellC, this]
  · have := hb1 (Or.inr (Or.inr rfl))
    simp only [cellC, this]
  · have := hb4 (Or.inl rfl)
    simp only [cellC, encR, this, (a4 rfl).1, (a4 rfl).2]
  · have := hb4 (Or.inr (Or.inl rfl))
    simp only [cellC, this, fun j => map_al (r1 (by omega) j)]
  · have := hb4 (Or.inr (Or.inr rfl))
    simp only [cellC, this]
  · simp only [cellC]
    by_cases h2 : i = 2
    · subst h2
      simp only [fun j => map_al (r4 (Or.inr ⟨rfl, rfl⟩) j)]
      rfl
    · have e1 : ∀ j, (fr j).map (al' 1) = (fr j).map (al 1) := fun j => map_al (r1 (fun q => by rcases q with q | q; exact absurd q (by decide); exact h2 q.2) j)
      simp only [e1, if_neg h2]
theorem cellM_al {dA : Nat → ClassId} {al al' : Nat → Nat → Nat} {k i : Nat} {fi : Nat → Int32} {fl : Nat → Int64} (h : ∀ j, al' 9 j = al 9 j) : cellM dA al' k i fi fl = cellM dA al k i fi fl := by
  have e : encM al' fi = encM al fi := by simp only [encM, h]
  unfold cellM
  rw [e]
theorem iv_grow {D : va_G} {dA : Nat → ClassId} {lo : Nat} {al al' : Nat → Nat → Nat} {σ σ' μ : CS} {H H1 : Heap} (h : Inv D dA lo al σ μ H) (hlo : lo ≤ H.size) (hk : ∀ q : Nat, q < H.size → H1[q]? = H[q]?)
    (hc : ∀ k i e, ent dA al' σ' μ k i = some e → (ent dA al σ μ k i = some e ∧ al' k i = al k i) ∨ (H.size ≤ al' k i ∧ va_at D vwCl (al' k i, e) H1))
    (hd : ∀ k i k' i' e e', ent dA al' σ' μ k i = some e → ent dA al' σ' μ k' i' = some e' → H.size ≤ al' k i → al' k i = al' k' i' → k = k' ∧ i = i') : Inv D dA lo al' σ' μ H1 := by
  refine ⟨fun k i e he => ?_, fun k i k' i' e e' he he' hq => ?_⟩
  · rcases hc k i e he with ⟨h1, h2⟩ | ⟨h1, h2⟩
    · obtain ⟨g1, g2⟩ := h.1 k i e h1
      rw [h2]
      exact ⟨va_at.kept g1 (hk _ (va_at.lt g1)), g2⟩
    · exact ⟨h2, Nat.le_trans hlo h1⟩
  · rcases hc k i e he with ⟨h1, h2⟩ | ⟨h1, h2⟩
    · rcases hc k' i' e' he' with ⟨h3, h4⟩ | ⟨h3, h4⟩
      · exact h.2 k i k' i' e e' h1 h3 (by rw [← h2, ← h4]; exact hq)
      · have := hd k' i' k i e' e he' he h3 hq.symm
        exact ⟨this.1.symm, this.2.symm⟩
    · exact hd k i k' i' e e' he he' h1 hq
def gNew (σ : CS) (n : Nat) (num h u d one rt day : Int32) (am : Int64) : CS :=
  (fun k i => if i = n ∧ k = 1 then (fun j => if j = 0 then num else if j = 1 then h else if j = 3 then one else 0) else if i = n ∧ k = 2 then (fun j => if j = 0 then u else d) else if i = n ∧ k = 3 then (fun j => if j = 0 then rt else if j = 2 then day else 0) else fI σ k i,
   fun k i => if i = n ∧ k = 1 then (fun j => if j = 5 then am else 0) else if i = n ∧ k = 3 then (fun _ => 0) else fL σ k i,
   fun k i => if i = n ∧ k = 1 then (fun _ => none) else fR σ k i, n + 1, nR σ)
def alG (al : Nat → Nat → Nat) (n q : Nat) : Nat → Nat → Nat := fun k i => if i = n ∧ k = 1 then q else if i = n ∧ k = 2 then q + 1 else if i = n ∧ k = 3 then q + 2 else al k i
theorem iv_gNew {D : va_G} {dA : Nat → ClassId} {lo : Nat} {al : Nat → Nat → Nat} {σ μ : CS} {H H1 : Heap} {n q : Nat} {num h u d one rt day : Int32} {am : Int64} (hI : Inv D dA lo al σ μ H) (hlo : lo ≤ H.size) (hrg : RG σ) (hn : nG σ = n) (hq : H.size = q) (hk : ∀ x : Nat, x < H.size → H1[x]? = H[x]?)
    (h1 : va_at D vwCl (q, .inr (1, [.int num, .int h, .ref (q + 1), .int one, .ref (q + 2), .long am, .long 0, .long 0, .int 0, .int 0, .null])) H1) (h2 : va_at D vwCl (q + 1, .inr (2, [.int u, .int d])) H1) (h3 : va_at D vwCl (q + 2, .inr (3, [.int rt, .long 0, .int day, .int 0])) H1) : Inv D dA lo (alG al n q) (gNew σ n num h u d one rt day am) μ H1 := by
  have hnew : ∀ k i, ¬ (i = n ∧ (k = 1 ∨ k = 2 ∨ k = 3)) → alG al n q k i = al k i := fun k i hc => by
    unfold alG
    rw [if_neg (fun z => hc ⟨z.1, Or.inl z.2⟩), if_neg (fun z => hc ⟨z.1, Or.inr (Or.inl z.2)⟩), if_neg (fun z => hc ⟨z.1, Or.inr (Or.inr z.2)⟩)]
  have hent : ∀ k i, ¬ (i = n ∧ (k = 1 ∨ k = 2 ∨ k = 3)) → ent dA (alG al n q) (gNew σ n num h u d one rt day am) μ k i = ent dA al σ μ k i := fun k i hc => by
    unfold ent
    by_cases hk8 : k < 8
    · rw [if_pos hk8, if_pos hk8]
      have e1 : fI (gNew σ n num h u d one rt day am) k i = fI σ k i := by
        show (if i = n ∧ k = 1 then _ else if i = n ∧ k = 2 then _ else if i = n ∧ k = 3 then _ else _) = _
        rw [if_neg (fun z => hc ⟨z.1, Or.inl z.2⟩), if_neg (fun z => hc ⟨z.1, Or.inr (Or.inl z.2)⟩), if_neg (fun z => hc ⟨z.1, Or.inr (Or.inr z.2)⟩)]
      have e2 : fL (gNew σ n num h u d one rt day am) k i = fL σ k i := by
        show (if i = n ∧ k = 1 then _ else if i = n ∧ k = 3 then _ else _) = _
        rw [if_neg (fun z => hc ⟨z.1, Or.inl z.2⟩), if_neg (fun z => hc ⟨z.1, Or.inr (Or.inr z.2)⟩)]
      have e3 : fR (gNew σ n num h u d one rt day am) k i = fR σ k i := by
        show (if i = n ∧ k = 1 then _ else _) = _
        rw [if_neg (fun z => hc ⟨z.1, Or.inl z.2⟩)]
      rw [e1, e2, e3]
      refine cell_al hk8 (fun hk1 => ?_) (fun _ => Iff.rfl) (fun j => hnew 7 j (by omega)) (fun hk1 => ⟨hnew 2 i (by omega), hnew 3 i (by omega)⟩) (fun hk4 => ⟨hnew 5 i (by omega), hnew 6 i (by omega)⟩) (fun hk4 j g e => hnew 4 g (by omega)) (fun hk4 j g e => hnew 1 g (by have := rg_1 hrg hk4 e; omega))
      rw [hn]
      show i < n + 1 ↔ i < n
      omega
    · rw [if_neg hk8, if_neg hk8]
      exact cellM_al (fun j => hnew 9 j (by omega))
  have q1 : alG al n q 1 n = q := by simp [alG]
  have q2 : alG al n q 2 n = q + 1 := by simp [alG]
  have q3 : alG al n q 3 n = q + 2 := by simp [alG]
  have c1 : ent dA (alG al n q) (gNew σ n num h u d one rt day am) μ 1 n = some (.inr (1, [.int num, .int h, .ref (q + 1), .int one, .ref (q + 2), .long am, .long 0, .long 0, .int 0, .int 0, .null])) := by
    simp [ent, cellC, encG, gNew, nG, fI, fL, fR, q2, q3, va_rf]
  have c2 : ent dA (alG al n q) (gNew σ n num h u d one rt day am) μ 2 n = some (.inr (2, [.int u, .int d])) := by
    simp [ent, cellC, encS, gNew, nG, fI, fL, fR]
  have c3 : ent dA (alG al n q) (gNew σ n num h u d one rt day am) μ 3 n = some (.inr (3, [.int rt, .long 0, .int day, .int 0])) := by
    simp [ent, cellC, encN, gNew, nG, fI, fL, fR]
  have hold : ∀ k i e, ent dA al σ μ k i = some e → al k i < q := fun k i e he => by rw [← hq]; exact va_at.lt (hI.1 k i e he).1
  refine iv_grow hI hlo hk (fun k i e he => ?_) (fun k i k' i' e e' he he' hle heq => ?_)
  · by_cases hc : i = n ∧ (k = 1 ∨ k = 2 ∨ k = 3)
    · right
      obtain ⟨rfl, hc⟩ := hc
      rcases hc with rfl | rfl | rfl
      · rw [q1]; cases c1.symm.trans he; exact ⟨by omega, h1⟩
      · rw [q2]; cases c2.symm.trans he; exact ⟨by omega, h2⟩
      · rw [q3]; cases c3.symm.trans he; exact ⟨by omega, h3⟩
    · left
      rw [hent k i hc] at he
      exact ⟨he, hnew k i hc⟩
  · have hc : i = n ∧ (k = 1 ∨ k = 2 ∨ k = 3) := by
      by_cases hc : i = n ∧ (k = 1 ∨ k = 2 ∨ k = 3)
      · exact hc
      · rw [hent k i hc] at he
        rw [hnew k i hc] at hle
        exact absurd (hold k i e he) (by omega)
    have hc' : i' = n ∧ (k' = 1 ∨ k' = 2 ∨ k' = 3) := by
      by_cases hc' : i' = n ∧ (k' = 1 ∨ k' = 2 ∨ k' = 3)
      · exact hc'
      · rw [hent k' i' hc'] at he'
        rw [heq, hnew k' i' hc'] at hle
        exact absurd (hold k' i' e' he') (by omega)
    obtain ⟨rfl, hc⟩ := hc
    obtain ⟨rfl, hc'⟩ := hc'
    refine ⟨?_, rfl⟩
    rcases hc with rfl | rfl | rfl <;> rcases hc' with rfl | rfl | rfl <;> first | rfl | (rw [q1] at heq; first | (rw [q2] at heq; omega) | (rw [q3] at heq; omega)) | (rw [q2] at heq; first | (rw [q1] at heq; omega) | (rw [q3] at heq; omega)) | (rw [q3] at heq; first | (rw [q1] at heq; omega) | (rw [q2] at heq; omega))
def rNew (σ : CS) (n : Nat) : CS :=
  (fun k i => if i = n ∧ k = 4 then (fun _ => 0) else fI σ k i,
   fun k i => if i = n ∧ (k = 4 ∨ k = 6) then (fun _ => 0) else fL σ k i,
   fun k i => if i = n ∧ k = 5 then (fun _ => none) else fR σ k i, nG σ, n + 1)
def alR (al : Nat → Nat → Nat) (n q : Nat) : Nat → Nat → Nat := fun k i => if i = n ∧ k = 4 then q else if i = n ∧ k = 5 then q + 1 else if i = n ∧ k = 6 then q + 2 else al k i
theorem iv_rNew {D : va_G} {dA : Nat → ClassId} {lo : Nat} {al : Nat → Nat → Nat} {σ μ : CS} {H H1 : Heap} {n q : Nat} (hI : Inv D dA lo al σ μ H) (hlo : lo ≤ H.size) (hrg : RG σ) (hn : nR σ = n) (hq : H.size = q) (hk : ∀ x : Nat, x < H.size → H1[x]? = H[x]?)
    (h1 : va_at D vwCl (q, .inr (4, [.ref (q + 1), .ref (q + 2), .int 0, .int 0, .long 0, .int 0])) H1) (h2 : va_at D vwCl (q + 1, .inl (dA 3, 4, .inr (.inr (.inr (.inr (fun _ => none)))))) H1) (h3 : va_at D vwCl (q + 2, .inl (dA 1, 4, .inr (.inl (fun _ => 0)))) H1) : Inv D dA lo (alR al n q) (rNew σ n) μ H1 := by
  have hnew : ∀ k i, ¬ (i = n ∧ (k = 4 ∨ k = 5 ∨ k = 6)) → alR al n q k i = al k i := fun k i hc => by
    unfold alR
    rw [if_neg (fun z => hc ⟨z.1, Or.inl z.2⟩), if_neg (fun z => hc ⟨z.1, Or.inr (Or.inl z.2)⟩), if_neg (fun z => hc ⟨z.1, Or.inr (Or.inr z.2)⟩)]
  have hent : ∀ k i, ¬ (i = n ∧ (k = 4 ∨ k = 5 ∨ k = 6)) → ent dA (alR al n q) (rNew σ n) μ k i = ent dA al σ μ k i := fun k i hc => by
    unfold ent
    by_cases hk8 : k < 8
    · rw [if_pos hk8, if_pos hk8]
      have e1 : fI (rNew σ n) k i = fI σ k i := by
        show (if i = n ∧ k = 4 then _ else _) = _
        rw [if_neg (fun z => hc ⟨z.1, Or.inl z.2⟩)]
      have e2 : fL (rNew σ n) k i = fL σ k i := by
        show (if i = n ∧ (k = 4 ∨ k = 6) then _ else _) = _
        rw [if_neg (fun z => hc ⟨z.1, z.2.elim Or.inl (fun y => Or.inr (Or.inr y))⟩)]
      have e3 : fR (rNew σ n) k i = fR σ k i := by
        show (if i = n ∧ k = 5 then _ else _) = _
        rw [if_neg (fun z => hc ⟨z.1, Or.inr (Or.inl z.2)⟩)]
      rw [e1, e2, e3]
      refine cell_al hk8 (fun _ => Iff.rfl) (fun hk1 => ?_) (fun j => hnew 7 j (by omega)) (fun hk1 => ⟨hnew 2 i (by omega), hnew 3 i (by omega)⟩) (fun hk4 => ⟨hnew 5 i (by omega), hnew 6 i (by omega)⟩) (fun hk4 j g e => hnew 4 g (by have := rg_4 hrg hk4 e; omega)) (fun hk4 j g e => hnew 1 g (by omega))
      rw [hn]
      show i < n + 1 ↔ i < n
      omega
    · rw [if_neg hk8, if_neg hk8]
      exact cellM_al (fun j => hnew 9 j (by omega))
  have q1 : alR al n q 4 n = q := by simp [alR]
  have q2 : alR al n q 5 n = q + 1 := by simp [alR]
  have q3 : alR al n q 6 n = q + 2 := by simp [alR]
  have c1 : ent dA (alR al n q) (rNew σ n) μ 4 n = some (.inr (4, [.ref (q + 1), .ref (q + 2), .int 0, .int 0, .long 0, .int 0])) := by
    simp [ent, cellC, encR, rNew, nR, fI, fL, fR, q2, q3]
  have c2 : ent dA (alR al n q) (rNew σ n) μ 5 n = some (.inl (dA 3, 4, .inr (.inr (.inr (.inr (fun _ => none)))))) := by
    simp [ent, cellC, rNew, nR, fI, fL, fR]
  have c3 : ent dA (alR al n q) (rNew σ n) μ 6 n = some (.inl (dA 1, 4, .inr (.inl (fun _ => 0)))) := by
    simp [ent, cellC, rNew, nR, fI, fL, fR]
  have hold : ∀ k i e, ent dA al σ μ k i = some e → al k i < q := fun k i e he => by rw [← hq]; exact va_at.lt (hI.1 k i e he).1
  refine iv_grow hI hlo hk (fun k i e he => ?_) (fun k i k' i' e e' he he' hle heq => ?_)
  · by_cases hc : i = n ∧ (k = 4 ∨ k = 5 ∨ k = 6)
    · right
      obtain ⟨rfl, hc⟩ := hc
      rcases hc with rfl | rfl | rfl
      · rw [q1]; cases c1.symm.trans he; exact ⟨by omega, h1⟩
      · rw [q2]; cases c2.symm.trans he; exact ⟨by omega, h2⟩
      · rw [q3]; cases c3.symm.trans he; exact ⟨by omega, h3⟩
    · left
      rw [hent k i hc] at he
      exact ⟨he, hnew k i hc⟩
  · have hc : i = n ∧ (k = 4 ∨ k = 5 ∨ k = 6) := by
      by_cases hc : i = n ∧ (k = 4 ∨ k = 5 ∨ k = 6)
      · exact hc
      · rw [hent k i hc] at he
        rw [hnew k i hc] at hle
        exact absurd (hold k i e he) (by omega)
    have hc' : i' = n ∧ (k' = 4 ∨ k' = 5 ∨ k' = 6) := by
      by_cases hc' : i' = n ∧ (k' = 4 ∨ k' = 5 ∨ k' = 6)
      · exact hc'
      · rw [hent k' i' hc'] at he'
        rw [heq, hnew k' i' hc'] at hle
        exact absurd (hold k' i' e' he') (by omega)
    obtain ⟨rfl, hc⟩ := hc
    obtain ⟨rfl, hc'⟩ := hc'
    refine ⟨?_, rfl⟩
    rcases hc with rfl | rfl | rfl <;> rcases hc' with rfl | rfl | rfl <;> first | rfl | (rw [q1] at heq; first | (rw [q2] at heq; omega) | (rw [q3] at heq; omega)) | (rw [q2] at heq; first | (rw [q1] at heq; omega) | (rw [q3] at heq; omega)) | (rw [q3] at heq; first | (rw [q1] at heq; omega) | (rw [q2] at heq; omega))
def agree (al al' : Nat → Nat → Nat) : Prop := ∀ k i, k = 0 ∨ 7 ≤ k → al' k i = al k i
theorem agree_G {al : Nat → Nat → Nat} {n q : Nat} : agree al (alG al n q) := fun k i hk => by
  unfold alG
  rw [if_neg (by omega), if_neg (by omega), if_neg (by omega)]
theorem agree_R {al : Nat → Nat → Nat} {n q : Nat} : agree al (alR al n q) := fun k i hk => by
  unfold alR
  rw [if_neg (by omega), if_neg (by omega), if_neg (by omega)]
/-- the class's guarantee and reserve -/
def kKeep (σ : CS) (r n : Nat) : CS := uR (rNew (kDraft σ r n) (r + 1)) 0 0 5 (some (r + 1))
def cGu (σ : CS) (n : Nat) (L : Nat → List Nat) (h : Int32) (a : Int64) (u d one rt : Int32) : Int32 × Int32 × CS := if pHold h then (if pCent a then (if pShare u d then (if rt < 0 then (1, 0, σ) else if rt ≤ 1000 then (if nI n < 20 then (0, nI (n + 1), pLast (uI (uR (gNew σ n (nI (n + 1)) h u d one rt (fI σ 0 0 9) a) 7 0 n (some n)) 0 0 6 (nI (n + 1))) h.toNatClampNeg n (L h.toNatClampNeg)) else (2, 0, σ)) else (1, 0, σ)) else (1, 0, σ)) else (1, 0, σ)) else (1, 0, σ)
def cRes (σ : CS) (r : Nat) (L : Nat → List Nat) (d h : Int32) (x : Int64) : Int32 × Int32 × CS := if pDesk d then (if pHold h then (if pCent x then (if nI r < 60 then (if (dLay (rBeg σ r h x) r (L h.toNatClampNeg) x 0).2 = true then (if fI (dLay (rBeg σ r h x) r (L h.toNatClampNeg) x 0).1 7 3 d.toNatClampNeg = 0 then (0, nI (r + 1), kKeep (dLay (rBeg σ r h x) r (L h.toNatClampNeg) x 0).1 r (pN (dLay (rBeg σ r h x) r (L h.toNatClampNeg) x 0).1 r)) else (0, -1, uI (uI (dLay (rBeg σ r h x) r (L h.toNatClampNeg) x 0).1 7 3 d.toNatClampNeg 0) 7 4 d.toNatClampNeg (fI (dLay (rBeg σ r h x) r (L h.toNatClampNeg) x 0).1 7 4 d.toNatClampNeg + 1))) else (0, (-2 - lMin (sumMay (dLay (rBeg σ r h x) r (L h.toNatClampNeg) x 0).1 (L h.toNatClampNeg) 0) 2000000000).toInt32, (dLay (rBeg σ r h x) r (L h.toNatClampNeg) x 0).1)) else (2, 0, σ)) else (1, 0, σ)) else (1, 0, σ)) else (1, 0, σ)

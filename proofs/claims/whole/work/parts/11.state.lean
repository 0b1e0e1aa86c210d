/-! THE STATE: numbers and references of all objects by (kind, object, field); where each object lies: al kind object -/
abbrev CS : Type := (Nat → Nat → Nat → Int32) × (Nat → Nat → Nat → Int64) × (Nat → Nat → Nat → Option Nat) × Nat × Nat
def fI (σ : CS) : Nat → Nat → Nat → Int32 := σ.1
def fL (σ : CS) : Nat → Nat → Nat → Int64 := σ.2.1
def fR (σ : CS) : Nat → Nat → Nat → Option Nat := σ.2.2.1
def nG (σ : CS) : Nat := σ.2.2.2.1
def nR (σ : CS) : Nat := σ.2.2.2.2
def up3 {β : Type} (f : Nat → Nat → Nat → β) (k i j : Nat) (v : β) : Nat → Nat → Nat → β := va_up f k (va_up (f k) i (va_up (f k i) j v))
theorem up3_at {β : Type} (f : Nat → Nat → Nat → β) (k i j : Nat) (v : β) : up3 f k i j v k i = va_up (f k i) j v := by simp [up3, va_up]
theorem up3_ne {β : Type} (f : Nat → Nat → Nat → β) {k i k' i' : Nat} (j : Nat) (v : β) (h : ¬ (k' = k ∧ i' = i)) : up3 f k i j v k' i' = f k' i' := by
  by_cases hk : k' = k
  · subst hk
    have hi : i' ≠ i := fun q => h ⟨rfl, q⟩
    simp [up3, va_up, hi]
  · simp [up3, va_up, hk]
theorem up3_val {β : Type} (f : Nat → Nat → Nat → β) (k i j : Nat) (v : β) (k' i' j' : Nat) : up3 f k i j v k' i' j' = if k' = k ∧ i' = i ∧ j' = j then v else f k' i' j' := by
  by_cases h : k' = k ∧ i' = i
  · obtain ⟨rfl, rfl⟩ := h
    rw [up3_at]
    by_cases hj : j' = j <;> simp [va_up, hj]
  · rw [up3_ne f j v h, if_neg (fun q => h ⟨q.1, q.2.1⟩)]
def uI (σ : CS) (k i f : Nat) (v : Int32) : CS := (up3 (fI σ) k i f v, fL σ, fR σ, nG σ, nR σ)
def uL (σ : CS) (k i f : Nat) (v : Int64) : CS := (fI σ, up3 (fL σ) k i f v, fR σ, nG σ, nR σ)
def uR (σ : CS) (k i f : Nat) (v : Option Nat) : CS := (fI σ, fL σ, up3 (fR σ) k i f v, nG σ, nR σ)
theorem fI_uI {σ : CS} {k i f : Nat} {v : Int32} : fI (uI σ k i f v) = up3 (fI σ) k i f v := rfl
theorem fI_uL {σ : CS} {k i f : Nat} {v : Int64} : fI (uL σ k i f v) = fI σ := rfl
theorem fI_uR {σ : CS} {k i f : Nat} {v : Option Nat} : fI (uR σ k i f v) = fI σ := rfl
theorem fL_uI {σ : CS} {k i f : Nat} {v : Int32} : fL (uI σ k i f v) = fL σ := rfl
theorem fL_uL {σ : CS} {k i f : Nat} {v : Int64} : fL (uL σ k i f v) = up3 (fL σ) k i f v := rfl
theorem fL_uR {σ : CS} {k i f : Nat} {v : Option Nat} : fL (uR σ k i f v) = fL σ := rfl
theorem fR_uI {σ : CS} {k i f : Nat} {v : Int32} : fR (uI σ k i f v) = fR σ := rfl
theorem fR_uL {σ : CS} {k i f : Nat} {v : Int64} : fR (uL σ k i f v) = fR σ := rfl
theorem fR_uR {σ : CS} {k i f : Nat} {v : Option Nat} : fR (uR σ k i f v) = up3 (fR σ) k i f v := rfl
theorem nG_uI {σ : CS} {k i f : Nat} {v : Int32} : nG (uI σ k i f v) = nG σ := rfl
theorem nG_uL {σ : CS} {k i f : Nat} {v : Int64} : nG (uL σ k i f v) = nG σ := rfl
theorem nG_uR {σ : CS} {k i f : Nat} {v : Option Nat} : nG (uR σ k i f v) = nG σ := rfl
theorem nR_uI {σ : CS} {k i f : Nat} {v : Int32} : nR (uI σ k i f v) = nR σ := rfl
theorem nR_uL {σ : CS} {k i f : Nat} {v : Int64} : nR (uL σ k i f v) = nR σ := rfl
theorem nR_uR {σ : CS} {k i f : Nat} {v : Option Nat} : nR (uR σ k i f v) = nR σ := rfl
/-- fields of the objects: the book (kind 0), a guarantee (1), its share (2), its interest (3), a reservation (4) -/
def encB (al : Nat → Nat → Nat) (fi : Nat → Int32) (_ : Nat → Int64) (fr : Nat → Option Nat) : List Value := [.ref (al 7 0), .ref (al 7 1), .ref (al 7 2), .ref (al 7 3), .ref (al 7 4), va_rf ((fr 5).map (al 4)), .int (fi 6), .int (fi 7), .int (fi 8), .int (fi 9)]
def encG (al : Nat → Nat → Nat) (i : Nat) (fi : Nat → Int32) (fl : Nat → Int64) (fr : Nat → Option Nat) : List Value := [.int (fi 0), .int (fi 1), .ref (al 2 i), .int (fi 3), .ref (al 3 i), .long (fl 5), .long (fl 6), .long (fl 7), .int (fi 8), .int (fi 9), va_rf ((fr 10).map (al 1))]
def encS (fi : Nat → Int32) : List Value := [.int (fi 0), .int (fi 1)]
def encN (fi : Nat → Int32) (fl : Nat → Int64) : List Value := [.int (fi 0), .long (fl 1), .int (fi 2), .int (fi 3)]
def encR (al : Nat → Nat → Nat) (i : Nat) (fi : Nat → Int32) (fl : Nat → Int64) : List Value := [.ref (al 5 i), .ref (al 6 i), .int (fi 2), .int (fi 3), .long (fl 4), .int (fi 5)]
def encM (al : Nat → Nat → Nat) (fi : Nat → Int32) : List Value := [.int (fi 0), .int (fi 1), .int (fi 2), .ref (al 9 0), .ref (al 9 1), .ref (al 9 2), .ref (al 9 3), .ref (al 9 4), .ref (al 9 5), .ref (al 9 6), .ref (al 9 7), .ref (al 9 8), .ref (al 9 9), .ref (al 9 10), .ref (al 9 11), .int (fi 15), .ref (al 9 12), .ref (al 9 13), .ref (al 9 14), .ref (al 9 15), .ref (al 9 16), .ref (al 9 17), .ref (al 9 18), .ref (al 9 19)]
/-- the cell of an object of the class: kinds 5, 6: a reservation's two arrays; 7: the book's five arrays -/
def cellC (dA : Nat → ClassId) (al : Nat → Nat → Nat) (n r : Nat) (k i : Nat) (fi : Nat → Int32) (fl : Nat → Int64) (fr : Nat → Option Nat) : Option va_E := match k with
  | 0 => if i = 0 then some (.inr (0, encB al fi fl fr)) else none
  | 1 => if i < n then some (.inr (1, encG al i fi fl fr)) else none
  | 2 => if i < n then some (.inr (2, encS fi)) else none
  | 3 => if i < n then some (.inr (3, encN fi fl)) else none
  | 4 => if i < r then some (.inr (4, encR al i fi fl)) else none
  | 5 => if i < r then some (.inl (dA 3, 4, .inr (.inr (.inr (.inr (fun j => (fr j).map (al 1))))))) else none
  | 6 => if i < r then some (.inl (dA 1, 4, .inr (.inl fl))) else none
  | 7 => if i = 0 then some (.inl (dA 3, 20, .inr (.inr (.inr (.inr (fun j => (fr j).map (al 1)))))))
      else if i = 1 then some (.inl (dA 3, 8, .inr (.inr (.inr (.inr (fun j => (fr j).map (al 1)))))))
      else if i = 2 then some (.inl (dA 4, 60, .inr (.inr (.inr (.inr (fun j => (fr j).map (al 4)))))))
      else if i = 3 then some (.inl (dA 2, 4, .inl fi))
      else if i = 4 then some (.inl (dA 0, 4, .inl fi)) else none
  | _ => none
/-- the model's arrays: how long, of what (0 int, 1 long, 2 boolean) -/
def mLen (j : Nat) : Nat := if j < 11 then 21 else if j = 11 then 20 else if j < 16 then 61 else if j < 18 then 244 else 4
def mTy (j : Nat) : Nat := if j = 1 ∨ j = 8 ∨ j = 9 ∨ j = 13 ∨ j = 17 then 1 else if j = 4 ∨ j = 6 ∨ j = 18 then 2 else 0
/-- the model (kind 8), its arrays (9), the law's own array (10) -/
def cellM (dA : Nat → ClassId) (al : Nat → Nat → Nat) (k i : Nat) (fi : Nat → Int32) (fl : Nat → Int64) : Option va_E := match k with
  | 8 => if i = 0 then some (.inr (5, encM al fi)) else none
  | 9 => if i < 20 then some (if mTy i = 1 then .inl (dA 1, mLen i, .inr (.inl fl)) else .inl (dA (mTy i), mLen i, .inl fi)) else none
  | 10 => if i = 0 then some (.inl (dA 1, 1, .inr (.inl fl))) else none
  | _ => none
def ent (dA : Nat → ClassId) (al : Nat → Nat → Nat) (σ μ : CS) (k i : Nat) : Option va_E := if k < 8 then cellC dA al (nG σ) (nR σ) k i (fI σ k i) (fL σ k i) (fR σ k i) else cellM dA al k i (fI μ k i) (fL μ k i)
/-- the heap holds the state -/
def Inv (D : va_G) (dA : Nat → ClassId) (lo : Nat) (al : Nat → Nat → Nat) (σ μ : CS) (H : Heap) : Prop :=
  (∀ (k i : Nat) (e : va_E), ent dA al σ μ k i = some e → va_at D vwCl (al k i, e) H ∧ lo ≤ al k i) ∧
  ∀ (k i k' i' : Nat) (e e' : va_E), ent dA al σ μ k i = some e → ent dA al σ μ k' i' = some e' → al k i = al k' i' → k = k' ∧ i = i'
/-- what the tables say of the arrays -/
abbrev tysA (dA : Nat → ClassId) : List (ClassId × FieldType) := [(dA 0, .int), (dA 1, .long), (dA 2, .boolean), (dA 3, .object "GuaranteeBook$Guarantee"), (dA 4, .object "GuaranteeBook$Reservation")]
/-- what a method takes as given beside its objects: the tables' facts, the nest's links, the constants of a throw -/
def nestW : List Cond := [Cond.methodLinkNest "GuaranteeBook" 32 ⟨"GuaranteeBook$Reservation", "<init>", "()V"⟩ "GuaranteeBook", Cond.fieldLinkNest "GuaranteeBook" 211 "GuaranteeBook$Reservation" "covers" "[J" "GuaranteeBook", Cond.fieldLinkNest "GuaranteeBook" 219 "GuaranteeBook$Reservation" "parts" "I" "GuaranteeBook", Cond.fieldLinkNest "GuaranteeBook" 215 "GuaranteeBook$Reservation" "holder" "I" "GuaranteeBook", Cond.fieldLinkNest "GuaranteeBook" 216 "GuaranteeBook$Reservation" "debt" "J" "GuaranteeBook", Cond.fieldLinkNest "GuaranteeBook" 123 "GuaranteeBook$Reservation" "state" "I" "GuaranteeBook", Cond.castable "java/lang/IllegalArgumentException" "java/lang/IllegalArgumentException", Cond.declares ⟨"java/lang/RuntimeException", "<init>", "(Ljava/lang/String;)V"⟩, Cond.declares ⟨"java/lang/Exception", "<init>", "(Ljava/lang/String;)V"⟩, Cond.declares ⟨"java/lang/Throwable", "<init>", "(Ljava/lang/String;)V"⟩, Cond.castable "java/lang/IllegalStateException" "java/lang/IllegalStateException", Cond.fieldLinkNest "GuaranteeBook$Reservation" 35 "GuaranteeBook$Guarantee" "number" "I" "GuaranteeBook", Cond.fieldLinkNest "GuaranteeBook" 172 "GuaranteeBook$Guarantee" "number" "I" "GuaranteeBook", Cond.fieldLinkNest "GuaranteeBook" 87 "GuaranteeBook$Guarantee" "holder" "I" "GuaranteeBook", Cond.fieldLinkNest "GuaranteeBook" 160 "GuaranteeBook$Guarantee" "interest" "LGuaranteeBook$Interest;" "GuaranteeBook", Cond.fieldLinkNest "GuaranteeBook" 164 "GuaranteeBook$Guarantee" "amount" "J" "GuaranteeBook", Cond.fieldLinkNest "GuaranteeBook" 182 "GuaranteeBook$Guarantee" "needed" "J" "GuaranteeBook", Cond.fieldLinkNest "GuaranteeBook" 197 "GuaranteeBook$Guarantee" "claimed" "J" "GuaranteeBook", Cond.fieldLinkNest "GuaranteeBook" 191 "GuaranteeBook$Guarantee" "uses" "I" "GuaranteeBook", Cond.fieldLinkNest "GuaranteeBook" 149 "GuaranteeBook$Guarantee" "closed" "Z" "GuaranteeBook", Cond.fieldLinkNest "GuaranteeBook" 175 "GuaranteeBook$Guarantee" "next" "LGuaranteeBook$Guarantee;" "GuaranteeBook", Cond.castable "java/lang/IndexOutOfBoundsException" "java/lang/IndexOutOfBoundsException"]
def strW : List (Nat × String) := [(51, "no such holder, amount, share or rate"), (62, "there are as many guarantees as there may be"), (96, "no such desk, holder or debt"), (101, "there are as many reservations as there may be"), (121, "no such reservation or way to end"), (133, "no such reservation or cents"), (158, "no such guarantee"), (200, "no such what of a guarantee"), (202, "no such reservation"), (222, "no such what or part of a reservation")]
theorem nest_warm {s U : State} (hW : s.WarmedH U.vm) (w : Cond) (hw : w ∈ nestW) (h : va_Nw w s) : va_Nw w U := by
  simp only [nestW, List.mem_cons, List.not_mem_nil, or_false] at hw
  rcases hw with rfl | rfl | rfl | rfl | rfl | rfl | rfl | rfl | rfl | rfl | rfl | rfl | rfl | rfl | rfl | rfl | rfl | rfl | rfl | rfl | rfl | rfl <;> first | exact va_Nw.warmF hW h | exact va_Nw.warmM hW h | exact va_Nw.warmC hW h | exact va_Nw.warmD hW h
def wd (D : va_G) (dA : Nat → ClassId) (sa : Nat → Nat) (lo : Nat) (U : State) : Prop := va_K D vwCl (tysA dA) U ∧ lo ≤ U.heap.size ∧ (∀ w ∈ nestW, va_Nw w U) ∧ va_AO "GuaranteeBook$Guarantee" U ∧ va_AO "GuaranteeBook$Reservation" U ∧ vx_Zq Bundle.tN "UNASSIGNED_STACK" Bundle.steD (fun q => lo ≤ q) U U.heap ∧ vx_Zq Bundle.tN "SUPPRESSED_SENTINEL" Bundle.listD (fun q => lo ≤ q) U U.heap ∧ ∀ q ∈ strW, vk_R "GuaranteeBook" q.1 q.2 (sa q.1) U
theorem wd_n {D : va_G} {dA : Nat → ClassId} {sa : Nat → Nat} {lo : Nat} {U : State} (h : wd D dA sa lo U) (w : Cond) (hw : w ∈ nestW) : va_Nw w U := h.2.2.1 w hw
theorem wd_s {D : va_G} {dA : Nat → ClassId} {sa : Nat → Nat} {lo : Nat} {U : State} (h : wd D dA sa lo U) (q : Nat × String) (hq : q ∈ strW) : vk_R "GuaranteeBook" q.1 q.2 (sa q.1) U := h.2.2.2.2.2.2.2 q hq
theorem wd_u {D : va_G} {dA : Nat → ClassId} {sa : Nat → Nat} {lo : Nat} {U : State} (h : wd D dA sa lo U) : vx_Zq Bundle.tN "UNASSIGNED_STACK" Bundle.steD (fun q => lo ≤ q) U U.heap := h.2.2.2.2.2.1
theorem wd_v {D : va_G} {dA : Nat → ClassId} {sa : Nat → Nat} {lo : Nat} {U : State} (h : wd D dA sa lo U) : vx_Zq Bundle.tN "SUPPRESSED_SENTINEL" Bundle.listD (fun q => lo ≤ q) U U.heap := h.2.2.2.2.2.2.1
theorem wd_use {D : va_G} {dA : Nat → ClassId} {sa : Nat → Nat} {lo : Nat} {s U : State} {H : Heap} {locs : List Loc} (h : wd D dA sa lo s) (hS : va_S (fun q => lo ≤ q) s.heap H locs) (hU : U.heap = H) (hW : s.WarmedH U.vm) : wd D dA sa lo U := by
  obtain ⟨h1, h2, h3, h4, h5, h6, h7, h8⟩ := h
  refine ⟨va_K.moved hW.alike h1, by rw [hU]; exact Nat.le_trans h2 hS.1, fun w hw => nest_warm hW w hw (h3 w hw), va_AO.moved hW.alike h4, va_AO.moved hW.alike h5, ?_, ?_, fun q hq => vk_R.warm hW (h8 q hq)⟩
  · rw [hU]; exact vx_Zq.moved hW.alike (h6.kept hS.2.1)
  · rw [hU]; exact vx_Zq.moved hW.alike (h7.kept hS.2.1)
theorem wd_calling {D : va_G} {dA : Nat → ClassId} {sa : Nat → Nat} {lo : Nat} {U : State} {g : JFrame} {mk : MethodId} {a : Array Value} (h : wd D dA sa lo U) : wd D dA sa lo (U.calling g mk a) :=
  wd_use (s := U) (U := U.calling g mk a) (H := U.heap) (locs := []) h va_S.rf rfl (State.WarmedH.refl U)
def ivP (D : va_G) (dA : Nat → ClassId) (sa : Nat → Nat) (lo : Nat) (al : Nat → Nat → Nat) (σ μ : CS) (U : State) : Prop := Inv D dA lo al σ μ U.heap ∧ wd D dA sa lo U
def ivB (D : va_G) (dA : Nat → ClassId) (lo : Nat) (al : Nat → Nat → Nat) (μ : CS) (σ : CS) (t : State) : Prop := Inv D dA lo al σ μ t.heap
def ivM (D : va_G) (dA : Nat → ClassId) (lo : Nat) (al : Nat → Nat → Nat) (σ : CS) (μ : CS) (t : State) : Prop := Inv D dA lo al σ μ t.heap
theorem iv_bl {D : va_G} {dA : Nat → ClassId} {sa : Nat → Nat} {lo : Nat} {al : Nat → Nat → Nat} {σ μ : CS} {av : List Value} : FrameBlind (va_Pc av (ivP D dA sa lo al σ μ)) := fun _ _ _ _ q => ⟨q.1, q.2.1, wd_calling q.2.2⟩
theorem iv_use {D : va_G} {dA : Nat → ClassId} {sa : Nat → Nat} {lo : Nat} {al : Nat → Nat → Nat} {σ μ : CS} {s U : State} {H : Heap} {locs : List Loc} (hI : Inv D dA lo al σ μ H) (hwd : wd D dA sa lo s) (hS : va_S (fun q => lo ≤ q) s.heap H locs) (hU : U.heap = H) (hW : s.WarmedH U.vm) : ivP D dA sa lo al σ μ U := ⟨by rw [hU]; exact hI, wd_use hwd hS hU hW⟩
theorem iv_take {D : va_G} {dA : Nat → ClassId} {lo : Nat} {al : Nat → Nat → Nat} {σ μ : CS} {t : State} {H : Heap} (ht : t.heap = H) (h : ivB D dA lo al μ σ t) : Inv D dA lo al σ μ H := by rw [← ht]; exact h
theorem iv_give {D : va_G} {dA : Nat → ClassId} {lo : Nat} {al : Nat → Nat → Nat} {σ μ : CS} {t : State} {H : Heap} (ht : t.heap = H) (h : Inv D dA lo al σ μ H) : ivB D dA lo al μ σ t := by unfold ivB; rw [ht]; exact h
theorem iv_giveM {D : va_G} {dA : Nat → ClassId} {lo : Nat} {al : Nat → Nat → Nat} {σ μ : CS} {t : State} {H : Heap} (ht : t.heap = H) (h : Inv D dA lo al σ μ H) : ivM D dA lo al σ μ t := by unfold ivM; rw [ht]; exact h
theorem iv_takeM {D : va_G} {dA : Nat → ClassId} {lo : Nat} {al : Nat → Nat → Nat} {σ μ : CS} {t : State} {H : Heap} (ht : t.heap = H) (h : ivM D dA lo al σ μ t) : Inv D dA lo al σ μ H := by rw [← ht]; exact h
section INV
variable {D : va_G} {dA : Nat → ClassId} {lo : Nat} {al : Nat → Nat → Nat} {σ μ : CS} {H H1 : Heap}
theorem iv_kept (h : Inv D dA lo al σ μ H) (hq : ∀ q : Nat, q < H.size → H1[q]? = H[q]?) : Inv D dA lo al σ μ H1 :=
  ⟨fun k i e he => ⟨va_at.kept (h.1 k i e he).1 (hq _ (va_at.lt (h.1 k i e he).1)), (h.1 k i e he).2⟩, h.2⟩
theorem iv_set {σ' μ' : CS} {k i : Nat} {e0 e : va_E} (h : Inv D dA lo al σ μ H) (h0 : ent dA al σ μ k i = some e0) (h1 : ent dA al σ' μ' k i = some e) (hne : ∀ k' i' : Nat, ¬ (k' = k ∧ i' = i) → ent dA al σ' μ' k' i' = ent dA al σ μ k' i')
    (hat : va_at D vwCl (al k i, e) H1) (ho : ∀ q : Nat, q ≠ al k i → H1[q]? = H[q]?) : Inv D dA lo al σ' μ' H1 := by
  have dom : ∀ (k' i' : Nat) (e' : va_E), ent dA al σ' μ' k' i' = some e' → ∃ e'', ent dA al σ μ k' i' = some e'' := by
    intro k' i' e' he
    by_cases hc : k' = k ∧ i' = i
    · obtain ⟨rfl, rfl⟩ := hc; exact ⟨_, h0⟩
    · exact ⟨e', by rw [← hne k' i' hc]; exact he⟩
  refine ⟨fun k' i' e' he => ?_, fun a b a' b' x y hx hy hxy => ?_⟩
  · by_cases hc : k' = k ∧ i' = i
    · obtain ⟨rfl, rfl⟩ := hc
      cases h1.symm.trans he
      exact ⟨hat, (h.1 _ _ _ h0).2⟩
    · rw [hne k' i' hc] at he
      exact ⟨va_at.kept (h.1 k' i' e' he).1 (ho _ (fun q => hc (h.2 k' i' k i e' e0 he h0 q))), (h.1 k' i' e' he).2⟩
  · obtain ⟨x', hx'⟩ := dom a b x hx
    obtain ⟨y', hy'⟩ := dom a' b' y hy
    exact h.2 a b a' b' x' y' hx' hy' hxy
theorem ent_C {k i : Nat} (hk : k < 8) : ent dA al σ μ k i = cellC dA al (nG σ) (nR σ) k i (fI σ k i) (fL σ k i) (fR σ k i) := if_pos hk
theorem ent_M {k i : Nat} (hk : ¬ k < 8) : ent dA al σ μ k i = cellM dA al k i (fI μ k i) (fL μ k i) := if_neg hk
theorem ent_neI {k i f : Nat} {v : Int32} {k' i' : Nat} (h : ¬ (k' = k ∧ i' = i)) : ent dA al (uI σ k i f v) μ k' i' = ent dA al σ μ k' i' := by
  unfold ent uI
  simp only [fI, fL, fR, nG, nR, up3_ne _ f v h]
theorem ent_neL {k i f : Nat} {v : Int64} {k' i' : Nat} (h : ¬ (k' = k ∧ i' = i)) : ent dA al (uL σ k i f v) μ k' i' = ent dA al σ μ k' i' := by
  unfold ent uL
  simp only [fI, fL, fR, nG, nR, up3_ne _ f v h]
theorem ent_neR {k i f : Nat} {v : Option Nat} {k' i' : Nat} (h : ¬ (k' = k ∧ i' = i)) : ent dA al (uR σ k i f v) μ k' i' = ent dA al σ μ k' i' := by
  unfold ent uR
  simp only [fI, fL, fR, nG, nR, up3_ne _ f v h]
theorem ent_neIM {k i f : Nat} {v : Int32} {k' i' : Nat} (h : ¬ (k' = k ∧ i' = i)) : ent dA al σ (uI μ k i f v) k' i' = ent dA al σ μ k' i' := by
  unfold ent uI
  simp only [fI, fL, fR, nG, nR, up3_ne _ f v h]
theorem ent_neLM {k i f : Nat} {v : Int64} {k' i' : Nat} (h : ¬ (k' = k ∧ i' = i)) : ent dA al σ (uL μ k i f v) k' i' = ent dA al σ μ k' i' := by
  unfold ent uL
  simp only [fI, fL, fR, nG, nR, up3_ne _ f v h]
/-- a field or an element of the class's objects is stored -/
theorem iv_uI {k i f : Nat} {v : Int32} {e0 e : va_E} (h : Inv D dA lo al σ μ H) (hk : k < 8) (h0 : cellC dA al (nG σ) (nR σ) k i (fI σ k i) (fL σ k i) (fR σ k i) = some e0) (h1 : cellC dA al (nG σ) (nR σ) k i (va_up (fI σ k i) f v) (fL σ k i) (fR σ k i) = some e)
    {A : Nat → Prop} {H0 : Heap} {locs1 : List Loc} (hq : sx_K D vwCl A H0 H (al k i) e H1 locs1) : Inv D dA lo al (uI σ k i f v) μ H1 :=
  iv_set h (by rw [ent_C hk]; exact h0) (by rw [ent_C hk, ← h1]; unfold uI; simp only [fI, fL, fR, nG, nR, up3_at]) (fun _ _ hc => ent_neI hc) hq.1 hq.2.2.1
theorem iv_uL {k i f : Nat} {v : Int64} {e0 e : va_E} (h : Inv D dA lo al σ μ H) (hk : k < 8) (h0 : cellC dA al (nG σ) (nR σ) k i (fI σ k i) (fL σ k i) (fR σ k i) = some e0) (h1 : cellC dA al (nG σ) (nR σ) k i (fI σ k i) (va_up (fL σ k i) f v) (fR σ k i) = some e)
    {A : Nat → Prop} {H0 : Heap} {locs1 : List Loc} (hq : sx_K D vwCl A H0 H (al k i) e H1 locs1) : Inv D dA lo al (uL σ k i f v) μ H1 :=
  iv_set h (by rw [ent_C hk]; exact h0) (by rw [ent_C hk, ← h1]; unfold uL; simp only [fI, fL, fR, nG, nR, up3_at]) (fun _ _ hc => ent_neL hc) hq.1 hq.2.2.1
theorem iv_uR {k i f : Nat} {v : Option Nat} {e0 e : va_E} (h : Inv D dA lo al σ μ H) (hk : k < 8) (h0 : cellC dA al (nG σ) (nR σ) k i (fI σ k i) (fL σ k i) (fR σ k i) = some e0) (h1 : cellC dA al (nG σ) (nR σ) k i (fI σ k i) (fL σ k i) (va_up (fR σ k i) f v) = some e)
    {A : Nat → Prop} {H0 : Heap} {locs1 : List Loc} (hq : sx_K D vwCl A H0 H (al k i) e H1 locs1) : Inv D dA lo al (uR σ k i f v) μ H1 :=
  iv_set h (by rw [ent_C hk]; exact h0) (by rw [ent_C hk, ← h1]; unfold uR; simp only [fI, fL, fR, nG, nR, up3_at]) (fun _ _ hc => ent_neR hc) hq.1 hq.2.2.1
/-- .. of the model's -/
theorem iv_mI {k i f : Nat} {v : Int32} {e0 e : va_E} (h : Inv D dA lo al σ μ H) (hk : ¬ k < 8) (h0 : cellM dA al k i (fI μ k i) (fL μ k i) = some e0) (h1 : cellM dA al k i (va_up (fI μ k i) f v) (fL μ k i) = some e)
    {A : Nat → Prop} {H0 : Heap} {locs1 : List Loc} (hq : sx_K D vwCl A H0 H (al k i) e H1 locs1) : Inv D dA lo al σ (uI μ k i f v) H1 :=
  iv_set h (by rw [ent_M hk]; exact h0) (by rw [ent_M hk, ← h1]; unfold uI; simp only [fI, fL, fR, nG, nR, up3_at]) (fun _ _ hc => ent_neIM hc) hq.1 hq.2.2.1
theorem iv_mL {k i f : Nat} {v : Int64} {e0 e : va_E} (h : Inv D dA lo al σ μ H) (hk : ¬ k < 8) (h0 : cellM dA al k i (fI μ k i) (fL μ k i) = some e0) (h1 : cellM dA al k i (fI μ k i) (va_up (fL μ k i) f v) = some e)
    {A : Nat → Prop} {H0 : Heap} {locs1 : List Loc} (hq : sx_K D vwCl A H0 H (al k i) e H1 locs1) : Inv D dA lo al σ (uL μ k i f v) H1 :=
  iv_set h (by rw [ent_M hk]; exact h0) (by rw [ent_M hk, ← h1]; unfold uL; simp only [fI, fL, fR, nG, nR, up3_at]) (fun _ _ hc => ent_neLM hc) hq.1 hq.2.2.1
/-- the cells -/
theorem iv_c (h : Inv D dA lo al σ μ H) {k i : Nat} {e : va_E} (hk : k < 8) (he : cellC dA al (nG σ) (nR σ) k i (fI σ k i) (fL σ k i) (fR σ k i) = some e) : va_at D vwCl (al k i, e) H := (h.1 k i e (by rw [ent_C hk]; exact he)).1
theorem iv_cA (h : Inv D dA lo al σ μ H) {k i : Nat} {e : va_E} (hk : k < 8) (he : cellC dA al (nG σ) (nR σ) k i (fI σ k i) (fL σ k i) (fR σ k i) = some e) : lo ≤ al k i := (h.1 k i e (by rw [ent_C hk]; exact he)).2
theorem iv_m (h : Inv D dA lo al σ μ H) {k i : Nat} {e : va_E} (hk : ¬ k < 8) (he : cellM dA al k i (fI μ k i) (fL μ k i) = some e) : va_at D vwCl (al k i, e) H := (h.1 k i e (by rw [ent_M hk]; exact he)).1
theorem iv_mA (h : Inv D dA lo al σ μ H) {k i : Nat} {e : va_E} (hk : ¬ k < 8) (he : cellM dA al k i (fI μ k i) (fL μ k i) = some e) : lo ≤ al k i := (h.1 k i e (by rw [ent_M hk]; exact he)).2
theorem iv_inj (h : Inv D dA lo al σ μ H) {i j : Nat} (hi : i < nG σ) (hj : j < nG σ) (e : al 1 i = al 1 j) : i = j := (h.2 1 i 1 j _ _ (if_pos hi) (if_pos hj) e).2
end INV
theorem up_map (al : Nat → Nat) (f : Nat → Option Nat) (k v : Nat) : (fun j => (va_up f k (some v) j).map al) = va_up (fun j => (f j).map al) k (some (al v)) := by
  funext j
  by_cases h : j = k <;> simp [va_up, h]
theorem up_mapN (al : Nat → Nat) (f : Nat → Option Nat) (k : Nat) : (fun j => (va_up f k none j).map al) = va_up (fun j => (f j).map al) k none := by
  funext j
  by_cases h : j = k <;> simp [va_up, h]
section CEL
variable {D : va_G} {dA : Nat → ClassId} {lo : Nat} {al : Nat → Nat → Nat} {σ μ : CS} {H H1 : Heap} {A : Nat → Prop} {H0 : Heap} {locs1 : List Loc} {f i : Nat}
theorem c0_at (h : Inv D dA lo al σ μ H) : va_at D vwCl (al 0 0, .inr (0, encB al (fI σ 0 0) (fL σ 0 0) (fR σ 0 0))) H := iv_c h (by decide) rfl
theorem c0_lo (h : Inv D dA lo al σ μ H) : lo ≤ al 0 0 := iv_cA h (by decide) rfl
theorem c0_uI {v : Int32} {fs : List Value} (h : Inv D dA lo al σ μ H) (he : encB al (va_up (fI σ 0 0) f v) (fL σ 0 0) (fR σ 0 0) = fs) (hq : sx_K D vwCl A H0 H (al 0 0) (.inr (0, fs)) H1 locs1) : Inv D dA lo al (uI σ 0 0 f v) μ H1 := by
  subst he
  exact iv_uI h (by decide) rfl rfl hq
theorem c0_uR {v : Option Nat} {fs : List Value} (h : Inv D dA lo al σ μ H) (he : encB al (fI σ 0 0) (fL σ 0 0) (va_up (fR σ 0 0) f v) = fs) (hq : sx_K D vwCl A H0 H (al 0 0) (.inr (0, fs)) H1 locs1) : Inv D dA lo al (uR σ 0 0 f v) μ H1 := by
  subst he
  exact iv_uR h (by decide) rfl rfl hq
theorem c1_at (h : Inv D dA lo al σ μ H) (hi : i < nG σ) : va_at D vwCl (al 1 i, .inr (1, encG al i (fI σ 1 i) (fL σ 1 i) (fR σ 1 i))) H := iv_c h (by decide) (if_pos hi)
theorem c1_lo (h : Inv D dA lo al σ μ H) (hi : i < nG σ) : lo ≤ al 1 i := iv_cA h (by decide) (if_pos hi)
theorem c1_uI {v : Int32} {fs : List Value} (h : Inv D dA lo al σ μ H) (hi : i < nG σ) (he : encG al i (va_up (fI σ 1 i) f v) (fL σ 1 i) (fR σ 1 i) = fs) (hq : sx_K D vwCl A H0 H (al 1 i) (.inr (1, fs)) H1 locs1) : Inv D dA lo al (uI σ 1 i f v) μ H1 := by
  subst he
  exact iv_uI h (by decide) (if_pos hi) (if_pos hi) hq
theorem c1_uL {v : Int64} {fs : List Value} (h : Inv D dA lo al σ μ H) (hi : i < nG σ) (he : encG al i (fI σ 1 i) (va_up (fL σ 1 i) f v) (fR σ 1 i) = fs) (hq : sx_K D vwCl A H0 H (al 1 i) (.inr (1, fs)) H1 locs1) : Inv D dA lo al (uL σ 1 i f v) μ H1 := by
  subst he
  exact iv_uL h (by decide) (if_pos hi) (if_pos hi) hq
theorem c1_uR {v : Option Nat} {fs : List Value} (h : Inv D dA lo al σ μ H) (hi : i < nG σ) (he : encG al i (fI σ 1 i) (fL σ 1 i) (va_up (fR σ 1 i) f v) = fs) (hq : sx_K D vwCl A H0 H (al 1 i) (.inr (1, fs)) H1 locs1) : Inv D dA lo al (uR σ 1 i f v) μ H1 := by
  subst he
  exact iv_uR h (by decide) (if_pos hi) (if_pos hi) hq
theorem c2_at (h : Inv D dA lo al σ μ H) (hi : i < nG σ) : va_at D vwCl (al 2 i, .inr (2, encS (fI σ 2 i))) H := iv_c h (by decide) (if_pos hi)
theorem c2_lo (h : Inv D dA lo al σ μ H) (hi : i < nG σ) : lo ≤ al 2 i := iv_cA h (by decide) (if_pos hi)
theorem c3_at (h : Inv D dA lo al σ μ H) (hi : i < nG σ) : va_at D vwCl (al 3 i, .inr (3, encN (fI σ 3 i) (fL σ 3 i))) H := iv_c h (by decide) (if_pos hi)
theorem c3_lo (h : Inv D dA lo al σ μ H) (hi : i < nG σ) : lo ≤ al 3 i := iv_cA h (by decide) (if_pos hi)
theorem c3_uI {v : Int32} {fs : List Value} (h : Inv D dA lo al σ μ H) (hi : i < nG σ) (he : encN (va_up (fI σ 3 i) f v) (fL σ 3 i) = fs) (hq : sx_K D vwCl A H0 H (al 3 i) (.inr (3, fs)) H1 locs1) : Inv D dA lo al (uI σ 3 i f v) μ H1 := by
  subst he
  exact iv_uI h (by decide) (if_pos hi) (if_pos hi) hq
theorem c3_uL {v : Int64} {fs : List Value} (h : Inv D dA lo al σ μ H) (hi : i < nG σ) (he : encN (fI σ 3 i) (va_up (fL σ 3 i) f v) = fs) (hq : sx_K D vwCl A H0 H (al 3 i) (.inr (3, fs)) H1 locs1) : Inv D dA lo al (uL σ 3 i f v) μ H1 := by
  subst he
  exact iv_uL h (by decide) (if_pos hi) (if_pos hi) hq
theorem c4_at (h : Inv D dA lo al σ μ H) (hi : i < nR σ) : va_at D vwCl (al 4 i, .inr (4, encR al i (fI σ 4 i) (fL σ 4 i))) H := iv_c h (by decide) (if_pos hi)
theorem c4_lo (h : Inv D dA lo al σ μ H) (hi : i < nR σ) : lo ≤ al 4 i := iv_cA h (by decide) (if_pos hi)
theorem c4_uI {v : Int32} {fs : List Value} (h : Inv D dA lo al σ μ H) (hi : i < nR σ) (he : encR al i (va_up (fI σ 4 i) f v) (fL σ 4 i) = fs) (hq : sx_K D vwCl A H0 H (al 4 i) (.inr (4, fs)) H1 locs1) : Inv D dA lo al (uI σ 4 i f v) μ H1 := by
  subst he
  exact iv_uI h (by decide) (if_pos hi) (if_pos hi) hq
theorem c4_uL {v : Int64} {fs : List Value} (h : Inv D dA lo al σ μ H) (hi : i < nR σ) (he : encR al i (fI σ 4 i) (va_up (fL σ 4 i) f v) = fs) (hq : sx_K D vwCl A H0 H (al 4 i) (.inr (4, fs)) H1 locs1) : Inv D dA lo al (uL σ 4 i f v) μ H1 := by
  subst he
  exact iv_uL h (by decide) (if_pos hi) (if_pos hi) hq
theorem c8_at (h : Inv D dA lo al σ μ H) : va_at D vwCl (al 8 0, .inr (5, encM al (fI μ 8 0))) H := iv_m h (by decide) rfl
theorem c8_lo (h : Inv D dA lo al σ μ H) : lo ≤ al 8 0 := iv_mA h (by decide) rfl
theorem c8_uI {v : Int32} {fs : List Value} (h : Inv D dA lo al σ μ H) (he : encM al (va_up (fI μ 8 0) f v) = fs) (hq : sx_K D vwCl A H0 H (al 8 0) (.inr (5, fs)) H1 locs1) : Inv D dA lo al σ (uI μ 8 0 f v) H1 := by
  subst he
  exact iv_mI h (by decide) rfl rfl hq
theorem c5_at (h : Inv D dA lo al σ μ H) (hi : i < nR σ) : va_at D vwCl (al 5 i, .inl (dA 3, 4, .inr (.inr (.inr (.inr (fun j => (fR σ 5 i j).map (al 1))))))) H := iv_c h (by decide) (if_pos hi)
theorem c5_lo (h : Inv D dA lo al σ μ H) (hi : i < nR σ) : lo ≤ al 5 i := iv_cA h (by decide) (if_pos hi)
theorem c5_uR {v : Nat} (h : Inv D dA lo al σ μ H) (hi : i < nR σ) (hq : sx_K D vwCl A H0 H (al 5 i) (.inl (dA 3, 4, .inr (.inr (.inr (.inr (va_up (fun j => (fR σ 5 i j).map (al 1)) f (some (al 1 v)))))))) H1 locs1) : Inv D dA lo al (uR σ 5 i f (some v)) μ H1 := by
  rw [← up_map (al 1)] at hq
  exact iv_uR h (by decide) (if_pos hi) (if_pos hi) hq
theorem c6_at (h : Inv D dA lo al σ μ H) (hi : i < nR σ) : va_at D vwCl (al 6 i, .inl (dA 1, 4, .inr (.inl (fL σ 6 i)))) H := iv_c h (by decide) (if_pos hi)
theorem c6_lo (h : Inv D dA lo al σ μ H) (hi : i < nR σ) : lo ≤ al 6 i := iv_cA h (by decide) (if_pos hi)
theorem c6_uL {v : Int64} (h : Inv D dA lo al σ μ H) (hi : i < nR σ) (hq : sx_K D vwCl A H0 H (al 6 i) (.inl (dA 1, 4, .inr (.inl (va_up (fL σ 6 i) f v)))) H1 locs1) : Inv D dA lo al (uL σ 6 i f v) μ H1 := by
  exact iv_uL h (by decide) (if_pos hi) (if_pos hi) hq
theorem c7_0_at (h : Inv D dA lo al σ μ H) : va_at D vwCl (al 7 0, .inl (dA 3, 20, .inr (.inr (.inr (.inr (fun j => (fR σ 7 0 j).map (al 1))))))) H := iv_c h (by decide) rfl
theorem c7_0_lo (h : Inv D dA lo al σ μ H) : lo ≤ al 7 0 := iv_cA h (by decide) rfl
theorem c7_0_uR {v : Nat} (h : Inv D dA lo al σ μ H) (hq : sx_K D vwCl A H0 H (al 7 0) (.inl (dA 3, 20, .inr (.inr (.inr (.inr (va_up (fun j => (fR σ 7 0 j).map (al 1)) f (some (al 1 v)))))))) H1 locs1) : Inv D dA lo al (uR σ 7 0 f (some v)) μ H1 := by
  rw [← up_map (al 1)] at hq
  exact iv_uR h (by decide) rfl rfl hq
theorem c7_1_at (h : Inv D dA lo al σ μ H) : va_at D vwCl (al 7 1, .inl (dA 3, 8, .inr (.inr (.inr (.inr (fun j => (fR σ 7 1 j).map (al 1))))))) H := iv_c h (by decide) rfl
theorem c7_1_lo (h : Inv D dA lo al σ μ H) : lo ≤ al 7 1 := iv_cA h (by decide) rfl
theorem c7_1_uR {v : Nat} (h : Inv D dA lo al σ μ H) (hq : sx_K D vwCl A H0 H (al 7 1) (.inl (dA 3, 8, .inr (.inr (.inr (.inr (va_up (fun j => (fR σ 7 1 j).map (al 1)) f (some (al 1 v)))))))) H1 locs1) : Inv D dA lo al (uR σ 7 1 f (some v)) μ H1 := by
  rw [← up_map (al 1)] at hq
  exact iv_uR h (by decide) rfl rfl hq
theorem c7_2_at (h : Inv D dA lo al σ μ H) : va_at D vwCl (al 7 2, .inl (dA 4, 60, .inr (.inr (.inr (.inr (fun j => (fR σ 7 2 j).map (al 4))))))) H := iv_c h (by decide) rfl
theorem c7_2_lo (h : Inv D dA lo al σ μ H) : lo ≤ al 7 2 := iv_cA h (by decide) rfl
theorem c7_2_uR {v : Nat} (h : Inv D dA lo al σ μ H) (hq : sx_K D vwCl A H0 H (al 7 2) (.inl (dA 4, 60, .inr (.inr (.inr (.inr (va_up (fun j => (fR σ 7 2 j).map (al 4)) f (some (al 4 v)))))))) H1 locs1) : Inv D dA lo al (uR σ 7 2 f (some v)) μ H1 := by
  rw [← up_map (al 4)] at hq
  exact iv_uR h (by decide) rfl rfl hq
theorem c7_3_at (h : Inv D dA lo al σ μ H) : va_at D vwCl (al 7 3, .inl (dA 2, 4, .inl (fI σ 7 3))) H := iv_c h (by decide) rfl
theorem c7_3_lo (h : Inv D dA lo al σ μ H) : lo ≤ al 7 3 := iv_cA h (by decide) rfl
theorem c7_3_uI {v : Int32} (h : Inv D dA lo al σ μ H) (hq : sx_K D vwCl A H0 H (al 7 3) (.inl (dA 2, 4, .inl (va_up (fI σ 7 3) f v))) H1 locs1) : Inv D dA lo al (uI σ 7 3 f v) μ H1 := by
  exact iv_uI h (by decide) rfl rfl hq
theorem c7_4_at (h : Inv D dA lo al σ μ H) : va_at D vwCl (al 7 4, .inl (dA 0, 4, .inl (fI σ 7 4))) H := iv_c h (by decide) rfl
theorem c7_4_lo (h : Inv D dA lo al σ μ H) : lo ≤ al 7 4 := iv_cA h (by decide) rfl
theorem c7_4_uI {v : Int32} (h : Inv D dA lo al σ μ H) (hq : sx_K D vwCl A H0 H (al 7 4) (.inl (dA 0, 4, .inl (va_up (fI σ 7 4) f v))) H1 locs1) : Inv D dA lo al (uI σ 7 4 f v) μ H1 := by
  exact iv_uI h (by decide) rfl rfl hq
theorem c9_0_at (h : Inv D dA lo al σ μ H) : va_at D vwCl (al 9 0, .inl (dA 0, 21, .inl (fI μ 9 0))) H := iv_m h (by decide) rfl
theorem c9_0_lo (h : Inv D dA lo al σ μ H) : lo ≤ al 9 0 := iv_mA h (by decide) rfl
theorem c9_0_uI {v : Int32} (h : Inv D dA lo al σ μ H) (hq : sx_K D vwCl A H0 H (al 9 0) (.inl (dA 0, 21, .inl (va_up (fI μ 9 0) f v))) H1 locs1) : Inv D dA lo al σ (uI μ 9 0 f v) H1 := by
  exact iv_mI h (by decide) rfl rfl hq
theorem c9_1_at (h : Inv D dA lo al σ μ H) : va_at D vwCl (al 9 1, .inl (dA 1, 21, .inr (.inl (fL μ 9 1)))) H := iv_m h (by decide) rfl
theorem c9_1_lo (h : Inv D dA lo al σ μ H) : lo ≤ al 9 1 := iv_mA h (by decide) rfl
theorem c9_1_uL {v : Int64} (h : Inv D dA lo al σ μ H) (hq : sx_K D vwCl A H0 H (al 9 1) (.inl (dA 1, 21, .inr (.inl (va_up (fL μ 9 1) f v)))) H1 locs1) : Inv D dA lo al σ (uL μ 9 1 f v) H1 := by
  exact iv_mL h (by decide) rfl rfl hq
theorem c9_2_at (h : Inv D dA lo al σ μ H) : va_at D vwCl (al 9 2, .inl (dA 0, 21, .inl (fI μ 9 2))) H := iv_m h (by decide) rfl
theorem c9_2_lo (h : Inv D dA lo al σ μ H) : lo ≤ al 9 2 := iv_mA h (by decide) rfl
theorem c9_2_uI {v : Int32} (h : Inv D dA lo al σ μ H) (hq : sx_K D vwCl A H0 H (al 9 2) (.inl (dA 0, 21, .inl (va_up (fI μ 9 2) f v))) H1 locs1) : Inv D dA lo al σ (uI μ 9 2 f v) H1 := by
  exact iv_mI h (by decide) rfl rfl hq
theorem c9_3_at (h : Inv D dA lo al σ μ H) : va_at D vwCl (al 9 3, .inl (dA 0, 21, .inl (fI μ 9 3))) H := iv_m h (by decide) rfl
theorem c9_3_lo (h : Inv D dA lo al σ μ H) : lo ≤ al 9 3 := iv_mA h (by decide) rfl
theorem c9_3_uI {v : Int32} (h : Inv D dA lo al σ μ H) (hq : sx_K D vwCl A H0 H (al 9 3) (.inl (dA 0, 21, .inl (va_up (fI μ 9 3) f v))) H1 locs1) : Inv D dA lo al σ (uI μ 9 3 f v) H1 := by
  exact iv_mI h (by decide) rfl rfl hq
theorem c9_4_at (h : Inv D dA lo al σ μ H) : va_at D vwCl (al 9 4, .inl (dA 2, 21, .inl (fI μ 9 4))) H := iv_m h (by decide) rfl
theorem c9_4_lo (h : Inv D dA lo al σ μ H) : lo ≤ al 9 4 := iv_mA h (by decide) rfl
theorem c9_4_uI {v : Int32} (h : Inv D dA lo al σ μ H) (hq : sx_K D vwCl A H0 H (al 9 4) (.inl (dA 2, 21, .inl (va_up (fI μ 9 4) f v))) H1 locs1) : Inv D dA lo al σ (uI μ 9 4 f v) H1 := by
  exact iv_mI h (by decide) rfl rfl hq
theorem c9_5_at (h : Inv D dA lo al σ μ H) : va_at D vwCl (al 9 5, .inl (dA 0, 21, .inl (fI μ 9 5))) H := iv_m h (by decide) rfl
theorem c9_5_lo (h : Inv D dA lo al σ μ H) : lo ≤ al 9 5 := iv_mA h (by decide) rfl
theorem c9_5_uI {v : Int32} (h : Inv D dA lo al σ μ H) (hq : sx_K D vwCl A H0 H (al 9 5) (.inl (dA 0, 21, .inl (va_up (fI μ 9 5) f v))) H1 locs1) : Inv D dA lo al σ (uI μ 9 5 f v) H1 := by
  exact iv_mI h (by decide) rfl rfl hq
theorem c9_6_at (h : Inv D dA lo al σ μ H) : va_at D vwCl (al 9 6, .inl (dA 2, 21, .inl (fI μ 9 6))) H := iv_m h (by decide) rfl
theorem c9_6_lo (h : Inv D dA lo al σ μ H) : lo ≤ al 9 6 := iv_mA h (by decide) rfl
theorem c9_6_uI {v : Int32} (h : Inv D dA lo al σ μ H) (hq : sx_K D vwCl A H0 H (al 9 6) (.inl (dA 2, 21, .inl (va_up (fI μ 9 6) f v))) H1 locs1) : Inv D dA lo al σ (uI μ 9 6 f v) H1 := by
  exact iv_mI h (by decide) rfl rfl hq
theorem c9_7_at (h : Inv D dA lo al σ μ H) : va_at D vwCl (al 9 7, .inl (dA 0, 21, .inl (fI μ 9 7))) H := iv_m h (by decide) rfl
theorem c9_7_lo (h : Inv D dA lo al σ μ H) : lo ≤ al 9 7 := iv_mA h (by decide) rfl
theorem c9_7_uI {v : Int32} (h : Inv D dA lo al σ μ H) (hq : sx_K D vwCl A H0 H (al 9 7) (.inl (dA 0, 21, .inl (va_up (fI μ 9 7) f v))) H1 locs1) : Inv D dA lo al σ (uI μ 9 7 f v) H1 := by
  exact iv_mI h (by decide) rfl rfl hq
theorem c9_8_at (h : Inv D dA lo al σ μ H) : va_at D vwCl (al 9 8, .inl (dA 1, 21, .inr (.inl (fL μ 9 8)))) H := iv_m h (by decide) rfl
theorem c9_8_lo (h : Inv D dA lo al σ μ H) : lo ≤ al 9 8 := iv_mA h (by decide) rfl
theorem c9_8_uL {v : Int64} (h : Inv D dA lo al σ μ H) (hq : sx_K D vwCl A H0 H (al 9 8) (.inl (dA 1, 21, .inr (.inl (va_up (fL μ 9 8) f v)))) H1 locs1) : Inv D dA lo al σ (uL μ 9 8 f v) H1 := by
  exact iv_mL h (by decide) rfl rfl hq
theorem c9_9_at (h : Inv D dA lo al σ μ H) : va_at D vwCl (al 9 9, .inl (dA 1, 21, .inr (.inl (fL μ 9 9)))) H := iv_m h (by decide) rfl
theorem c9_9_lo (h : Inv D dA lo al σ μ H) : lo ≤ al 9 9 := iv_mA h (by decide) rfl
theorem c9_9_uL {v : Int64} (h : Inv D dA lo al σ μ H) (hq : sx_K D vwCl A H0 H (al 9 9) (.inl (dA 1, 21, .inr (.inl (va_up (fL μ 9 9) f v)))) H1 locs1) : Inv D dA lo al σ (uL μ 9 9 f v) H1 := by
  exact iv_mL h (by decide) rfl rfl hq
theorem c9_10_at (h : Inv D dA lo al σ μ H) : va_at D vwCl (al 9 10, .inl (dA 0, 21, .inl (fI μ 9 10))) H := iv_m h (by decide) rfl
theorem c9_10_lo (h : Inv D dA lo al σ μ H) : lo ≤ al 9 10 := iv_mA h (by decide) rfl
theorem c9_10_uI {v : Int32} (h : Inv D dA lo al σ μ H) (hq : sx_K D vwCl A H0 H (al 9 10) (.inl (dA 0, 21, .inl (va_up (fI μ 9 10) f v))) H1 locs1) : Inv D dA lo al σ (uI μ 9 10 f v) H1 := by
  exact iv_mI h (by decide) rfl rfl hq
theorem c9_11_at (h : Inv D dA lo al σ μ H) : va_at D vwCl (al 9 11, .inl (dA 0, 20, .inl (fI μ 9 11))) H := iv_m h (by decide) rfl
theorem c9_11_lo (h : Inv D dA lo al σ μ H) : lo ≤ al 9 11 := iv_mA h (by decide) rfl
theorem c9_11_uI {v : Int32} (h : Inv D dA lo al σ μ H) (hq : sx_K D vwCl A H0 H (al 9 11) (.inl (dA 0, 20, .inl (va_up (fI μ 9 11) f v))) H1 locs1) : Inv D dA lo al σ (uI μ 9 11 f v) H1 := by
  exact iv_mI h (by decide) rfl rfl hq
theorem c9_12_at (h : Inv D dA lo al σ μ H) : va_at D vwCl (al 9 12, .inl (dA 0, 61, .inl (fI μ 9 12))) H := iv_m h (by decide) rfl
theorem c9_12_lo (h : Inv D dA lo al σ μ H) : lo ≤ al 9 12 := iv_mA h (by decide) rfl
theorem c9_12_uI {v : Int32} (h : Inv D dA lo al σ μ H) (hq : sx_K D vwCl A H0 H (al 9 12) (.inl (dA 0, 61, .inl (va_up (fI μ 9 12) f v))) H1 locs1) : Inv D dA lo al σ (uI μ 9 12 f v) H1 := by
  exact iv_mI h (by decide) rfl rfl hq
theorem c9_13_at (h : Inv D dA lo al σ μ H) : va_at D vwCl (al 9 13, .inl (dA 1, 61, .inr (.inl (fL μ 9 13)))) H := iv_m h (by decide) rfl
theorem c9_13_lo (h : Inv D dA lo al σ μ H) : lo ≤ al 9 13 := iv_mA h (by decide) rfl
theorem c9_13_uL {v : Int64} (h : Inv D dA lo al σ μ H) (hq : sx_K D vwCl A H0 H (al 9 13) (.inl (dA 1, 61, .inr (.inl (va_up (fL μ 9 13) f v)))) H1 locs1) : Inv D dA lo al σ (uL μ 9 13 f v) H1 := by
  exact iv_mL h (by decide) rfl rfl hq
theorem c9_14_at (h : Inv D dA lo al σ μ H) : va_at D vwCl (al 9 14, .inl (dA 0, 61, .inl (fI μ 9 14))) H := iv_m h (by decide) rfl
theorem c9_14_lo (h : Inv D dA lo al σ μ H) : lo ≤ al 9 14 := iv_mA h (by decide) rfl
theorem c9_14_uI {v : Int32} (h : Inv D dA lo al σ μ H) (hq : sx_K D vwCl A H0 H (al 9 14) (.inl (dA 0, 61, .inl (va_up (fI μ 9 14) f v))) H1 locs1) : Inv D dA lo al σ (uI μ 9 14 f v) H1 := by
  exact iv_mI h (by decide) rfl rfl hq
theorem c9_15_at (h : Inv D dA lo al σ μ H) : va_at D vwCl (al 9 15, .inl (dA 0, 61, .inl (fI μ 9 15))) H := iv_m h (by decide) rfl
theorem c9_15_lo (h : Inv D dA lo al σ μ H) : lo ≤ al 9 15 := iv_mA h (by decide) rfl
theorem c9_15_uI {v : Int32} (h : Inv D dA lo al σ μ H) (hq : sx_K D vwCl A H0 H (al 9 15) (.inl (dA 0, 61, .inl (va_up (fI μ 9 15) f v))) H1 locs1) : Inv D dA lo al σ (uI μ 9 15 f v) H1 := by
  exact iv_mI h (by decide) rfl rfl hq
theorem c9_16_at (h : Inv D dA lo al σ μ H) : va_at D vwCl (al 9 16, .inl (dA 0, 244, .inl (fI μ 9 16))) H := iv_m h (by decide) rfl
theorem c9_16_lo (h : Inv D dA lo al σ μ H) : lo ≤ al 9 16 := iv_mA h (by decide) rfl
theorem c9_16_uI {v : Int32} (h : Inv D dA lo al σ μ H) (hq : sx_K D vwCl A H0 H (al 9 16) (.inl (dA 0, 244, .inl (va_up (fI μ 9 16) f v))) H1 locs1) : Inv D dA lo al σ (uI μ 9 16 f v) H1 := by
  exact iv_mI h (by decide) rfl rfl hq
theorem c9_17_at (h : Inv D dA lo al σ μ H) : va_at D vwCl (al 9 17, .inl (dA 1, 244, .inr (.inl (fL μ 9 17)))) H := iv_m h (by decide) rfl
theorem c9_17_lo (h : Inv D dA lo al σ μ H) : lo ≤ al 9 17 := iv_mA h (by decide) rfl
theorem c9_17_uL {v : Int64} (h : Inv D dA lo al σ μ H) (hq : sx_K D vwCl A H0 H (al 9 17) (.inl (dA 1, 244, .inr (.inl (va_up (fL μ 9 17) f v)))) H1 locs1) : Inv D dA lo al σ (uL μ 9 17 f v) H1 := by
  exact iv_mL h (by decide) rfl rfl hq
theorem c9_18_at (h : Inv D dA lo al σ μ H) : va_at D vwCl (al 9 18, .inl (dA 2, 4, .inl (fI μ 9 18))) H := iv_m h (by decide) rfl
theorem c9_18_lo (h : Inv D dA lo al σ μ H) : lo ≤ al 9 18 := iv_mA h (by decide) rfl
theorem c9_18_uI {v : Int32} (h : Inv D dA lo al σ μ H) (hq : sx_K D vwCl A H0 H (al 9 18) (.inl (dA 2, 4, .inl (va_up (fI μ 9 18) f v))) H1 locs1) : Inv D dA lo al σ (uI μ 9 18 f v) H1 := by
  exact iv_mI h (by decide) rfl rfl hq
theorem c9_19_at (h : Inv D dA lo al σ μ H) : va_at D vwCl (al 9 19, .inl (dA 0, 4, .inl (fI μ 9 19))) H := iv_m h (by decide) rfl
theorem c9_19_lo (h : Inv D dA lo al σ μ H) : lo ≤ al 9 19 := iv_mA h (by decide) rfl
theorem c9_19_uI {v : Int32} (h : Inv D dA lo al σ μ H) (hq : sx_K D vwCl A H0 H (al 9 19) (.inl (dA 0, 4, .inl (va_up (fI μ 9 19) f v))) H1 locs1) : Inv D dA lo al σ (uI μ 9 19 f v) H1 := by
  exact iv_mI h (by decide) rfl rfl hq
theorem c10_at (h : Inv D dA lo al σ μ H) : va_at D vwCl (al 10 0, .inl (dA 1, 1, .inr (.inl (fL μ 10 0)))) H := iv_m h (by decide) rfl
theorem c10_lo (h : Inv D dA lo al σ μ H) : lo ≤ al 10 0 := iv_mA h (by decide) rfl
theorem c10_uL {v : Int64} (h : Inv D dA lo al σ μ H) (hq : sx_K D vwCl A H0 H (al 10 0) (.inl (dA 1, 1, .inr (.inl (va_up (fL μ 10 0) f v)))) H1 locs1) : Inv D dA lo al σ (uL μ 10 0 f v) H1 := by
  exact iv_mL h (by decide) rfl rfl hq
end CEL

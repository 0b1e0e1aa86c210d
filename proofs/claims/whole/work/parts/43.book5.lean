/-! WHAT guarantee, reserve AND keepDraft NEED -/
theorem Ch_mono {σ σ' : CS} (h1 : ∀ i, i < nG σ → fR σ' 1 i = fR σ 1 i) (h2 : nG σ ≤ nG σ') : ∀ (t : List Nat) (o : Option Nat), Ch σ o t → Ch σ' o t
  | [], _, h => h
  | i :: t, o, h => ⟨h.1, Nat.lt_of_lt_of_le h.2.1 h2, by rw [h1 i h.2.1]; exact Ch_mono h1 h2 t _ h.2.2⟩
theorem Ch_mem {σ : CS} : ∀ (t : List Nat) (o : Option Nat), Ch σ o t → ∀ g ∈ t, g < nG σ
  | [], _, _, _, hg => by cases hg
  | i :: t, o, h, g, hg => by
    rcases List.mem_cons.mp hg with rfl | hg
    · exact h.2.1
    · exact Ch_mem t _ h.2.2 g hg
theorem dLay_ind {r n : Nat} {P : CS → Nat → Prop} (hs : ∀ τ q g x, q < 4 → g < n → P τ q → P (rAdd τ r q g x) (q + 1)) : ∀ (t : List Nat) (τ : CS) (w : Int64) (q : Nat), (∀ g ∈ t, g < n) → P τ q → ∃ q', P (dLay τ r t w q).1 q'
  | [], τ, w, q, _, h => ⟨q, h⟩
  | g :: t, τ, w, q, hm, h => by
    have hm2 : ∀ x ∈ t, x < n := fun x hx => hm x (List.mem_cons_of_mem _ hx)
    rw [dLay]
    split
    · exact ⟨q, h⟩
    · split
      · exact dLay_ind hs t τ _ q hm2 h
      · split
        · rename_i h4
          exact dLay_ind hs t _ _ (q + 1) hm2 (hs τ q g _ h4 (hm g List.mem_cons_self) h)
        · exact ⟨q, h⟩
/-- what a draft leaves of the state -/
def DrOk (σ τ : CS) (r n q : Nat) : Prop := (nG τ = n) ∧ (nR τ = nR σ) ∧ (fI τ 4 r 2 = nI q) ∧ (q ≤ 4) ∧ (∀ k, k < q → ∃ g, fR τ 5 r k = some g ∧ g < n) ∧ (∀ k, k ≠ 5 → fR τ k = fR σ k) ∧ (∀ i, i ≠ r → fR τ 5 i = fR σ 5 i) ∧ (∀ k, k ≠ 4 → fI τ k = fI σ k) ∧ (∀ i, i ≠ r → fI τ 4 i = fI σ 4 i) ∧ (∀ k, k ≠ 4 → k ≠ 6 → fL τ k = fL σ k) ∧ (∀ i, i ≠ r → fL τ 4 i = fL σ 4 i) ∧ (∀ i, i ≠ r → fL τ 6 i = fL σ 6 i) ∧ (RG σ → RG τ)
theorem DrOk.dg {σ τ : CS} {r n q : Nat} (h : DrOk σ τ r n q) : nG τ = n := h.1
theorem DrOk.dr {σ τ : CS} {r n q : Nat} (h : DrOk σ τ r n q) : nR τ = nR σ := h.2.1
theorem DrOk.p {σ τ : CS} {r n q : Nat} (h : DrOk σ τ r n q) : fI τ 4 r 2 = nI q := h.2.2.1
theorem DrOk.q4 {σ τ : CS} {r n q : Nat} (h : DrOk σ τ r n q) : q ≤ 4 := h.2.2.2.1
theorem DrOk.pg {σ τ : CS} {r n q : Nat} (h : DrOk σ τ r n q) : ∀ k, k < q → ∃ g, fR τ 5 r k = some g ∧ g < n := h.2.2.2.2.1
theorem DrOk.rk {σ τ : CS} {r n q : Nat} (h : DrOk σ τ r n q) : ∀ k, k ≠ 5 → fR τ k = fR σ k := h.2.2.2.2.2.1
theorem DrOk.r5 {σ τ : CS} {r n q : Nat} (h : DrOk σ τ r n q) : ∀ i, i ≠ r → fR τ 5 i = fR σ 5 i := h.2.2.2.2.2.2.1
theorem DrOk.ik {σ τ : CS} {r n q : Nat} (h : DrOk σ τ r n q) : ∀ k, k ≠ 4 → fI τ k = fI σ k := h.2.2.2.2.2.2.2.1
theorem DrOk.i4 {σ τ : CS} {r n q : Nat} (h : DrOk σ τ r n q) : ∀ i, i ≠ r → fI τ 4 i = fI σ 4 i := h.2.2.2.2.2.2.2.2.1
theorem DrOk.lk {σ τ : CS} {r n q : Nat} (h : DrOk σ τ r n q) : ∀ k, k ≠ 4 → k ≠ 6 → fL τ k = fL σ k := h.2.2.2.2.2.2.2.2.2.1
theorem DrOk.l4 {σ τ : CS} {r n q : Nat} (h : DrOk σ τ r n q) : ∀ i, i ≠ r → fL τ 4 i = fL σ 4 i := h.2.2.2.2.2.2.2.2.2.2.1
theorem DrOk.l6 {σ τ : CS} {r n q : Nat} (h : DrOk σ τ r n q) : ∀ i, i ≠ r → fL τ 6 i = fL σ 6 i := h.2.2.2.2.2.2.2.2.2.2.2.1
theorem DrOk.rg {σ τ : CS} {r n q : Nat} (h : DrOk σ τ r n q) : RG σ → RG τ := h.2.2.2.2.2.2.2.2.2.2.2.2
theorem dr_beg {σ : CS} {r : Nat} {h : Int32} {x : Int64} : DrOk σ (rBeg σ r h x) r (nG σ) 0 := by
  refine ⟨?_, ?_, ?_, ?_, ?_, ?_, ?_, ?_, ?_, ?_, ?_, ?_, ?_⟩
  · exact rfl
  · exact rfl
  · exact rBeg_n
  · exact by omega
  · exact fun k hk => by omega
  · exact fun k _ => rfl
  · exact fun i _ => rfl
  · exact fun k hk => by
      unfold rBeg
      simp only [fI_uI, fI_uL]
      simp [up3, va_up, hk]
  · exact fun i hi => by
      unfold rBeg
      rw [fI_uI, up3_ne _ _ _ (fun q => hi q.2), fI_uL, fI_uI, up3_ne _ _ _ (fun q => hi q.2)]
  · exact fun k hk _ => by
      unfold rBeg
      simp only [fL_uI, fL_uL]
      simp [up3, va_up, hk]
  · exact fun i hi => by
      unfold rBeg
      rw [fL_uI, fL_uL, up3_ne _ _ _ (fun q => hi q.2), fL_uI]
  · exact fun i hi => by
      unfold rBeg
      rw [fL_uI, fL_uL, up3_ne _ _ _ (fun q => by omega), fL_uI]
  · exact fun h => h
theorem dr_add {σ τ : CS} {r n q g : Nat} {x : Int64} (hq : q < 4) (hg : g < n) (h : DrOk σ τ r n q) : DrOk σ (rAdd τ r q g x) r n (q + 1) := by
  refine ⟨?_, ?_, ?_, ?_, ?_, ?_, ?_, ?_, ?_, ?_, ?_, ?_, ?_⟩
  · exact h.dg
  · exact h.dr
  · exact rAdd_n
  · exact by omega
  · exact fun k hk => by
      have e : fR (rAdd τ r q g x) 5 r k = va_up (fR τ 5 r) q (some g) k := by
        show fR (uR τ 5 r q (some g)) 5 r k = _
        rw [fR_uR, up3_at]
      rw [e]
      by_cases hkq : k = q
      · subst hkq
        exact ⟨g, va_up_self .., hg⟩
      · rw [up_ne hkq]
        exact h.pg k (by omega)
  · exact fun k hk => (rAdd_R1 hk).trans (h.rk k hk)
  · exact fun i hi => by
      rw [← h.r5 i hi]
      show fR (uR τ 5 r q (some g)) 5 i = _
      rw [fR_uR, up3_ne _ _ _ (fun z => hi z.2)]
  · exact fun k hk => (rAdd_I hk).trans (h.ik k hk)
  · exact fun i hi => by
      rw [← h.i4 i hi]
      unfold rAdd
      rw [fI_uI, up3_ne _ _ _ (fun z => hi z.2), fI_uL, fI_uR]
  · exact fun k hk hk6 => (rAdd_L hk6).trans (h.lk k hk hk6)
  · exact fun i hi => by
      rw [← h.l4 i hi]
      show fL (uL _ 6 r q x) 4 i = _
      rw [fL_uL, up3_ne _ _ _ (fun z => by omega), fL_uR]
  · exact fun i hi => by
      rw [← h.l6 i hi]
      show fL (uL _ 6 r q x) 6 i = _
      rw [fL_uL, up3_ne _ _ _ (fun z => hi z.2), fL_uR]
  · exact fun hr k i j g' e => by
      have h0 := h.rg hr
      have e' : up3 (fR τ) 5 r q (some g) k i j = some g' := e
      rw [up3_val] at e'
      split at e'
      · rename_i hc
        cases e'
        rw [if_neg (by omega)]
        have := h.dg
        show g < nG τ
        omega
      · exact h0 k i j g' e'
theorem dr_lay {σ : CS} {r n : Nat} {h : Int32} {x : Int64} {L : List Nat} (hn : nG σ = n) (hm : ∀ g ∈ L, g < n) : ∃ q, DrOk σ (dLay (rBeg σ r h x) r L x 0).1 r n q :=
  dLay_ind (P := fun τ q => DrOk σ τ r n q) (fun τ q g x hq hg hp => dr_add hq hg hp) L (rBeg σ r h x) x 0 hm (by rw [← hn]; exact dr_beg)
theorem rNew_I0 {σ : CS} {n k : Nat} (hk : k ≠ 4) : fI (rNew σ n) k = fI σ k := by
  funext i
  show (if i = n ∧ k = 4 then _ else _) = _
  rw [if_neg (fun z => hk z.2)]
theorem gNew_I0 {σ : CS} {n : Nat} {num h u d one rt day : Int32} {am : Int64} {k : Nat} (hk : ¬ (k = 1 ∨ k = 2 ∨ k = 3)) : fI (gNew σ n num h u d one rt day am) k = fI σ k := by
  funext i
  show (if i = n ∧ k = 1 then _ else if i = n ∧ k = 2 then _ else if i = n ∧ k = 3 then _ else _) = _
  rw [if_neg (fun z => hk (Or.inl z.2)), if_neg (fun z => hk (Or.inr (Or.inl z.2))), if_neg (fun z => hk (Or.inr (Or.inr z.2)))]
theorem gNew_R {σ : CS} {n : Nat} {num h u d one rt day : Int32} {am : Int64} {k i : Nat} (hk : ¬ (i = n ∧ k = 1)) : fR (gNew σ n num h u d one rt day am) k i = fR σ k i := if_neg hk
theorem RG_kd {σ : CS} {r p : Nat} (h : RG σ) (hr : r < nR σ) : RG (kDraft σ r p) := by
  intro k i j g e
  have e' : up3 (fR (rBind σ r p)) 7 2 r (some r) k i j = some g := e
  rw [up3_val, rBind_R] at e'
  have hN : nR (kDraft σ r p) = nR σ := rBind_N p
  have hG : nG (kDraft σ r p) = nG σ := rBind_G p
  rw [hN, hG]
  split at e'
  · rename_i hc
    cases e'
    rw [if_pos (Or.inr ⟨hc.1, hc.2.1⟩)]
    exact hr
  · exact h k i j g e'
theorem nR_kd {σ : CS} {r p : Nat} : nR (kDraft σ r p) = nR σ := rBind_N p
theorem nG_kd {σ : CS} {r p : Nat} : nG (kDraft σ r p) = nG σ := rBind_G p
def ivA (D : va_G) (dA : Nat → ClassId) (lo : Nat) (μ : CS) (u : CS × (Nat → Nat → Nat)) (t : State) : Prop := Inv D dA lo u.2 u.1 μ t.heap
theorem iv_giveA {D : va_G} {dA : Nat → ClassId} {lo : Nat} {al : Nat → Nat → Nat} {σ μ : CS} {t : State} {H : Heap} (ht : t.heap = H) (h : Inv D dA lo al σ μ H) : ivA D dA lo μ (σ, al) t := by unfold ivA; rw [ht]; exact h
theorem iv_takeA {D : va_G} {dA : Nat → ClassId} {lo : Nat} {u : CS × (Nat → Nat → Nat)} {μ : CS} {t : State} {H : Heap} (ht : t.heap = H) (h : ivA D dA lo μ u t) : Inv D dA lo u.2 u.1 μ H := by rw [← ht]; exact h
theorem w_1_8 : (Jvm.Cond.initialized "java/lang/IllegalStateException") ∈ WSall := ws_in (tb1 (List.mem_of_getElem? (i := 8) rfl)) (by decide +kernel)
theorem w_1_184 : (Jvm.Cond.methodLink "GuaranteeBook" (41 : Nat) ({ cls := "GuaranteeBook", name := "isCents", desc := "(J)Z" } : Jvm.MethodName)) ∈ WSall := ws_in (tb1 (List.mem_of_getElem? (i := 184) rfl)) (by decide +kernel)
theorem w_1_185 : (Jvm.Cond.static ({ cls := "GuaranteeBook", name := "isCents", desc := "(J)Z" } : Jvm.MethodName)) ∈ WSall := ws_in (tb1 (List.mem_of_getElem? (i := 185) rfl)) (by decide +kernel)
theorem w_1_186 : (Jvm.Cond.code ({ cls := "GuaranteeBook", name := "isCents", desc := "(J)Z" } : Jvm.MethodName) prog_1_method_19_code (2 : Nat) (Option.some Jvm.ClassFile.FieldType.boolean)) ∈ WSall := ws_in (tb1 (List.mem_of_getElem? (i := 186) rfl)) (by decide +kernel)
theorem w_1_188 : (Jvm.Cond.methodLink "GuaranteeBook" (45 : Nat) ({ cls := "GuaranteeBook", name := "isShare", desc := "(II)Z" } : Jvm.MethodName)) ∈ WSall := ws_in (tb1 (List.mem_of_getElem? (i := 188) rfl)) (by decide +kernel)
theorem w_1_189 : (Jvm.Cond.static ({ cls := "GuaranteeBook", name := "isShare", desc := "(II)Z" } : Jvm.MethodName)) ∈ WSall := ws_in (tb1 (List.mem_of_getElem? (i := 189) rfl)) (by decide +kernel)
theorem w_1_190 : (Jvm.Cond.code ({ cls := "GuaranteeBook", name := "isShare", desc := "(II)Z" } : Jvm.MethodName) prog_1_method_20_code (2 : Nat) (Option.some Jvm.ClassFile.FieldType.boolean)) ∈ WSall := ws_in (tb1 (List.mem_of_getElem? (i := 190) rfl)) (by decide +kernel)
theorem w_2_19 : (Jvm.Cond.classLink "GuaranteeBook" (60 : Nat) "java/lang/IllegalStateException") ∈ WSall := ws_in (tb2 (List.mem_of_getElem? (i := 19) rfl)) (by decide +kernel)
theorem w_2_35 : (Jvm.Cond.instantiable "GuaranteeBook$Guarantee" (11 : Nat)) ∈ WSall := ws_in (tb2 (List.mem_of_getElem? (i := 35) rfl)) (by decide +kernel)
theorem w_2_36 : (Jvm.Cond.classLink "GuaranteeBook" (65 : Nat) "GuaranteeBook$Share") ∈ WSall := ws_in (tb2 (List.mem_of_getElem? (i := 36) rfl)) (by decide +kernel)
theorem w_2_37 : (Jvm.Cond.instantiable "GuaranteeBook$Share" (2 : Nat)) ∈ WSall := ws_in (tb2 (List.mem_of_getElem? (i := 37) rfl)) (by decide +kernel)
theorem w_2_38 : (Jvm.Cond.methodLink "GuaranteeBook" (67 : Nat) ({ cls := "GuaranteeBook$Share", name := "<init>", desc := "(II)V" } : Jvm.MethodName)) ∈ WSall := ws_in (tb2 (List.mem_of_getElem? (i := 38) rfl)) (by decide +kernel)
theorem w_2_39 : (Jvm.Cond.instanceMethod ({ cls := "GuaranteeBook$Share", name := "<init>", desc := "(II)V" } : Jvm.MethodName)) ∈ WSall := ws_in (tb2 (List.mem_of_getElem? (i := 39) rfl)) (by decide +kernel)
theorem w_2_40 : (Jvm.Cond.code ({ cls := "GuaranteeBook$Share", name := "<init>", desc := "(II)V" } : Jvm.MethodName) prog_5_method_1_code (3 : Nat) (Option.none : Option Jvm.ClassFile.FieldType)) ∈ WSall := ws_in (tb2 (List.mem_of_getElem? (i := 40) rfl)) (by decide +kernel)
theorem w_2_49 : (Jvm.Cond.classLink "GuaranteeBook" (70 : Nat) "GuaranteeBook$Interest") ∈ WSall := ws_in (tb2 (List.mem_of_getElem? (i := 49) rfl)) (by decide +kernel)
theorem w_2_50 : (Jvm.Cond.instantiable "GuaranteeBook$Interest" (4 : Nat)) ∈ WSall := ws_in (tb2 (List.mem_of_getElem? (i := 50) rfl)) (by decide +kernel)
theorem w_2_51 : (Jvm.Cond.methodLink "GuaranteeBook" (75 : Nat) ({ cls := "GuaranteeBook$Interest", name := "<init>", desc := "(II)V" } : Jvm.MethodName)) ∈ WSall := ws_in (tb2 (List.mem_of_getElem? (i := 51) rfl)) (by decide +kernel)
theorem w_2_52 : (Jvm.Cond.instanceMethod ({ cls := "GuaranteeBook$Interest", name := "<init>", desc := "(II)V" } : Jvm.MethodName)) ∈ WSall := ws_in (tb2 (List.mem_of_getElem? (i := 52) rfl)) (by decide +kernel)
theorem w_2_53 : (Jvm.Cond.code ({ cls := "GuaranteeBook$Interest", name := "<init>", desc := "(II)V" } : Jvm.MethodName) prog_3_method_1_code (3 : Nat) (Option.none : Option Jvm.ClassFile.FieldType)) ∈ WSall := ws_in (tb2 (List.mem_of_getElem? (i := 53) rfl)) (by decide +kernel)
theorem w_2_68 : (Jvm.Cond.methodLink "GuaranteeBook" (76 : Nat) ({ cls := "GuaranteeBook$Guarantee", name := "<init>", desc := "(IIJLGuaranteeBook$Share;ZLGuaranteeBook$Interest;)V" } : Jvm.MethodName)) ∈ WSall := ws_in (tb2 (List.mem_of_getElem? (i := 68) rfl)) (by decide +kernel)
theorem w_2_69 : (Jvm.Cond.instanceMethod ({ cls := "GuaranteeBook$Guarantee", name := "<init>", desc := "(IIJLGuaranteeBook$Share;ZLGuaranteeBook$Interest;)V" } : Jvm.MethodName)) ∈ WSall := ws_in (tb2 (List.mem_of_getElem? (i := 69) rfl)) (by decide +kernel)
theorem w_2_70 : (Jvm.Cond.code ({ cls := "GuaranteeBook$Guarantee", name := "<init>", desc := "(IIJLGuaranteeBook$Share;ZLGuaranteeBook$Interest;)V" } : Jvm.MethodName) prog_2_method_1_code (8 : Nat) (Option.none : Option Jvm.ClassFile.FieldType)) ∈ WSall := ws_in (tb2 (List.mem_of_getElem? (i := 70) rfl)) (by decide +kernel)
theorem w_2_115 : (Jvm.Cond.methodLink "GuaranteeBook" (79 : Nat) ({ cls := "GuaranteeBook", name := "putLast", desc := "(LGuaranteeBook$Guarantee;)V" } : Jvm.MethodName)) ∈ WSall := ws_in (tb2 (List.mem_of_getElem? (i := 115) rfl)) (by decide +kernel)
theorem w_2_117 : (Jvm.Cond.instanceMethod ({ cls := "GuaranteeBook", name := "putLast", desc := "(LGuaranteeBook$Guarantee;)V" } : Jvm.MethodName)) ∈ WSall := ws_in (tb2 (List.mem_of_getElem? (i := 117) rfl)) (by decide +kernel)
theorem w_2_118 : (Jvm.Cond.code ({ cls := "GuaranteeBook", name := "putLast", desc := "(LGuaranteeBook$Guarantee;)V" } : Jvm.MethodName) prog_1_method_23_code (3 : Nat) (Option.none : Option Jvm.ClassFile.FieldType)) ∈ WSall := ws_in (tb2 (List.mem_of_getElem? (i := 118) rfl)) (by decide +kernel)
theorem w_2_128 : (Jvm.Cond.methodLink "GuaranteeBook" (103 : Nat) ({ cls := "GuaranteeBook", name := "draftCovers", desc := "(IJ)Z" } : Jvm.MethodName)) ∈ WSall := ws_in (tb2 (List.mem_of_getElem? (i := 128) rfl)) (by decide +kernel)
theorem w_2_130 : (Jvm.Cond.instanceMethod ({ cls := "GuaranteeBook", name := "draftCovers", desc := "(IJ)Z" } : Jvm.MethodName)) ∈ WSall := ws_in (tb2 (List.mem_of_getElem? (i := 130) rfl)) (by decide +kernel)
theorem w_2_131 : (Jvm.Cond.code ({ cls := "GuaranteeBook", name := "draftCovers", desc := "(IJ)Z" } : Jvm.MethodName) prog_1_method_26_code (9 : Nat) (Option.some Jvm.ClassFile.FieldType.boolean)) ∈ WSall := ws_in (tb2 (List.mem_of_getElem? (i := 131) rfl)) (by decide +kernel)
theorem w_2_140 : (Jvm.Cond.constantLong "GuaranteeBook" (107 : Nat) (-2 : Int64)) ∈ WSall := ws_in (tb2 (List.mem_of_getElem? (i := 140) rfl)) (by decide +kernel)
theorem w_2_141 : (Jvm.Cond.methodLink "GuaranteeBook" (113 : Nat) ({ cls := "GuaranteeBook", name := "keepDraft", desc := "()I" } : Jvm.MethodName)) ∈ WSall := ws_in (tb2 (List.mem_of_getElem? (i := 141) rfl)) (by decide +kernel)
theorem w_2_143 : (Jvm.Cond.instanceMethod ({ cls := "GuaranteeBook", name := "keepDraft", desc := "()I" } : Jvm.MethodName)) ∈ WSall := ws_in (tb2 (List.mem_of_getElem? (i := 143) rfl)) (by decide +kernel)
theorem w_2_144 : (Jvm.Cond.code ({ cls := "GuaranteeBook", name := "keepDraft", desc := "()I" } : Jvm.MethodName) prog_1_method_27_code (1 : Nat) (Option.some Jvm.ClassFile.FieldType.int)) ∈ WSall := ws_in (tb2 (List.mem_of_getElem? (i := 144) rfl)) (by decide +kernel)
theorem w_2_145 : (Jvm.Cond.methodLink "GuaranteeBook" (245 : Nat) ({ cls := "GuaranteeBook$Reservation", name := "bindParts", desc := "()V" } : Jvm.MethodName)) ∈ WSall := ws_in (tb2 (List.mem_of_getElem? (i := 145) rfl)) (by decide +kernel)
theorem w_2_146 : (Jvm.Cond.instanceMethod ({ cls := "GuaranteeBook$Reservation", name := "bindParts", desc := "()V" } : Jvm.MethodName)) ∈ WSall := ws_in (tb2 (List.mem_of_getElem? (i := 146) rfl)) (by decide +kernel)
theorem w_2_147 : (Jvm.Cond.selects "GuaranteeBook$Reservation" ({ cls := "GuaranteeBook$Reservation", name := "bindParts", desc := "()V" } : Jvm.MethodName) ({ cls := "GuaranteeBook$Reservation", name := "bindParts", desc := "()V" } : Jvm.MethodName)) ∈ WSall := ws_in (tb2 (List.mem_of_getElem? (i := 147) rfl)) (by decide +kernel)
theorem w_2_148 : (Jvm.Cond.code ({ cls := "GuaranteeBook$Reservation", name := "bindParts", desc := "()V" } : Jvm.MethodName) prog_4_method_7_code (2 : Nat) (Option.none : Option Jvm.ClassFile.FieldType)) ∈ WSall := ws_in (tb2 (List.mem_of_getElem? (i := 148) rfl)) (by decide +kernel)
theorem wp_4 : Cond.selects "GuaranteeBook" ⟨"GuaranteeBook", "putLast", "(LGuaranteeBook$Guarantee;)V"⟩ ⟨"GuaranteeBook", "putLast", "(LGuaranteeBook$Guarantee;)V"⟩ ∈ WSall := ws_in (List.mem_append_left _ (by decide +kernel)) (by decide +kernel)
theorem wp_5 : Cond.selects "GuaranteeBook" ⟨"GuaranteeBook", "draftCovers", "(IJ)Z"⟩ ⟨"GuaranteeBook", "draftCovers", "(IJ)Z"⟩ ∈ WSall := ws_in (List.mem_append_left _ (by decide +kernel)) (by decide +kernel)
theorem wp_6 : Cond.selects "GuaranteeBook" ⟨"GuaranteeBook", "keepDraft", "()I"⟩ ⟨"GuaranteeBook", "keepDraft", "()I"⟩ ∈ WSall := ws_in (List.mem_append_left _ (by decide +kernel)) (by decide +kernel)

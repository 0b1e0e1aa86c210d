/-! NEW OBJECTS -/
theorem sx_runI {p : Program} {l : Launch} {e : Env} {R : Room} {s : State} {m : MethodId} {args : Array Value} {below : List Frame} {meth : Method} {c : Code} {H : Heap} {locs : List Loc} {cells slots : Nat} {y : MethodName} {bytes cc : ByteArray} {maxL nL mc ms n index : Nat} {ws ws' : List Cond} {rm : Room} {Pc : Array Value → State → Prop} {Qc : Array Value → State → Outcome → State → Prop} {free : Addr → Prop} {Ts : List Cond} {own : String} {b : Addr} {As rest : List Value} {g : JFrame}
    (S : CallFix p m c cc nL s args Ts own) (hM : Met l y ws rm Pc Qc mc ms free) (hG : GoodIn Ts ws) (hw : ws = Cond.code y bytes maxL none :: ws') (hrc : rm.cells = mc) (hrs : rm.slots = ms) (hini : (Cond.initialized y.cls).before args s = true) (hl : (Cond.methodLink own index y).before args s = true) (hin : (Cond.instanceMethod y).before args s = true) (hy1 : y.name = "<init>")
    (hd : y.cls ≠ "java/lang/invoke/MethodHandle" ∧ y.cls ≠ "java/lang/invoke/VarHandle" ∧ (parseMethodDescriptor y.desc).map (fun d => d.parameters.length) = some n) (hR : rm.frames + 1 ≤ R.frames ∧ 16 + (maxL + 11) + rm.locals ≤ R.locals) (hp : PreS s H Pc (.ref b :: As))
    (hg : g.method = m) (hn : As.length = n) (hsize : g.locals.size = nL) (hstack : g.stack = As.reverse ++ .ref b :: rest) (hW : 2 * g.monitorRoom + (rest.map fun v => v.category).sum ≤ 16) (hdg : decode cc g.pc = .ok (.invokespecial index, 3)) (hf : cells + mc ≤ R.cells ∧ slots + ms ≤ R.slots) :
    va_Run p l e R s m args below meth c H locs cells slots mc ms g rest (Qc (Value.ref b :: As).toArray) (free) := by
  obtain ⟨hx, hb, hml, ho, ht⟩ := S
  have hc : Cond.code y bytes maxL none ∈ ws := by rw [hw]; exact List.mem_cons_self
  have hcode := ht _ (hG _ hc).1
  have hK : Back l R p e below s args y 3 16 (PreOf R mc ms Pc) (PostOf Qc mc ms free) := back_of (bytes := bytes) (maxL := maxL) (ret := none) hM hp.1 hrc hrs hR.1 hR.2 (pay_in ht hG) hc (fun a' U hW => word_at hW (Or.inl (by first | rfl | simp [Cond.onTables, Cond.keeps, Cond.steady])) hini)
  have hlen : ∀ sig, parseMethodDescriptor y.desc = some sig → n = sig.parameters.length := fun sig h => by
    have h2 := hd.2.2
    rw [h] at h2
    exact (Option.some.inj h2).symm
  intro T hT X
  obtain ⟨v, vm₁, ⟨U', l2, c2, s2⟩, hW₁, X', ⟨g', mk, t, L, e1, e2, hq, h1, hL, h2, h3⟩, st⟩ := callI X hx (bytes := bytes) (maxL := maxL) ho hy1 hl hin hcode ⟨hd.1, hd.2.1⟩ hK hg (hsize.trans hml.symm) (a := b) (argsL := As) (rest := rest) (fun sig h => hn.trans (hlen sig h)) hstack hW (by rw [hb]; exact hdg)
    (fun vm₁ hW₁ => ⟨hf.1, hf.2, hp.2 (T.setVm vm₁) hT hW₁⟩)
  dsimp only [Pt.U, Pt.locs, Pt.cells, Pt.slots] at X' e1 e2 h1 h2 h3 st
  subst h1; subst h2; subst h3
  exact ⟨v, (T.setVm vm₁).calling g' mk (Value.ref b :: As).toArray, t, U', L, hT, X', hL, e1, e2, hq, st⟩
theorem sx_room {m : MethodId} {pc : Nat} {ls : Array Slot} {rest st : List Value} (h : (st.map fun v => v.category).sum ≤ 16) : 2 * (F0 m pc ls rest).monitorRoom + (st.map fun v => v.category).sum ≤ 16 := by
  show 2 * 0 + _ ≤ 16
  omega
def rwP (D : va_G) (dA : Nat → ClassId) (sa : Nat → Nat) (lo sz : Nat) (ws : va_W) (U : State) : Prop := (U.heap.size = sz ∧ va_P D vwCl ws U.heap) ∧ wd D dA sa lo U
def rwQ (D : va_G) (sz : Nat) (ws : va_W) (_ : Unit) (t : State) : Prop := t.heap.size = sz ∧ va_P D vwCl ws t.heap
theorem rw_bl {D : va_G} {dA : Nat → ClassId} {sa : Nat → Nat} {lo sz : Nat} {ws : va_W} {av : List Value} : FrameBlind (va_Pc av (rwP D dA sa lo sz ws)) := fun _ _ _ _ q => ⟨q.1, q.2.1, wd_calling q.2.2⟩
theorem rw_get {D : va_G} {ws : va_W} {H : Heap} {q : Nat × va_E} (h : va_P D vwCl ws H) (k : Nat) (hk : ws[k]? = some q) : va_at D vwCl q H := h k q hk
theorem rw_nil {D : va_G} {H : Heap} : va_P D vwCl [] H := fun k q h => by cases h
theorem rw_cons {D : va_G} {ws : va_W} {H : Heap} {q : Nat × va_E} (h1 : va_at D vwCl q H) (h : va_P D vwCl ws H) : va_P D vwCl (q :: ws) H := by
  intro k x hk
  cases k with
  | zero => cases hk; exact h1
  | succ k => exact h k x hk
theorem sx_weak {A A' : Nat → Prop} {H0 H : Heap} {locs : List Loc} (h : va_S A H0 H locs) (hA : ∀ q, A q → A' q) : va_S A' H0 H locs := ⟨h.1, fun q h1 h2 => h.2.1 q h1 (fun z => h2 (hA q z)), fun q hq => hA _ (h.2.2 q hq)⟩
theorem wd_ao3 {D : va_G} {dA : Nat → ClassId} {sa : Nat → Nat} {lo : Nat} {U : State} {A : Array Value} (h : wd D dA sa lo U) : (Cond.arrayOver (.object "GuaranteeBook$Guarantee")).before A U = true := va_AO.use h.2.2.2.1
theorem wd_ao4 {D : va_G} {dA : Nat → ClassId} {sa : Nat → Nat} {lo : Nat} {U : State} {A : Array Value} (h : wd D dA sa lo U) : (Cond.arrayOver (.object "GuaranteeBook$Reservation")).before A U = true := va_AO.use h.2.2.2.2.1
theorem w_1_19 : (Jvm.Cond.methodLink "GuaranteeBook" (1 : Nat) ({ cls := "java/lang/Object", name := "<init>", desc := "()V" } : Jvm.MethodName)) ∈ WSall := ws_in (tb1 (List.mem_of_getElem? (i := 19) rfl)) (by decide +kernel)
theorem w_1_20 : (Jvm.Cond.instanceMethod ({ cls := "java/lang/Object", name := "<init>", desc := "()V" } : Jvm.MethodName)) ∈ WSall := ws_in (tb1 (List.mem_of_getElem? (i := 20) rfl)) (by decide +kernel)
theorem w_1_21 : (Jvm.Cond.code ({ cls := "java/lang/Object", name := "<init>", desc := "()V" } : Jvm.MethodName) object_method_1_code (1 : Nat) (Option.none : Option Jvm.ClassFile.FieldType)) ∈ WSall := ws_in (tb1 (List.mem_of_getElem? (i := 21) rfl)) (by decide +kernel)
theorem w_1_22 : (Jvm.Cond.classLink "GuaranteeBook" (9 : Nat) "GuaranteeBook$Guarantee") ∈ WSall := ws_in (tb1 (List.mem_of_getElem? (i := 22) rfl)) (by decide +kernel)
theorem w_1_24 : (Jvm.Cond.classLink "GuaranteeBook" (18 : Nat) "GuaranteeBook$Reservation") ∈ WSall := ws_in (tb1 (List.mem_of_getElem? (i := 24) rfl)) (by decide +kernel)
theorem w_1_26 : (Jvm.Cond.instantiable "GuaranteeBook$Reservation" (6 : Nat)) ∈ WSall := ws_in (tb1 (List.mem_of_getElem? (i := 26) rfl)) (by decide +kernel)
theorem w_1_28 : (Jvm.Cond.instanceMethod ({ cls := "GuaranteeBook$Reservation", name := "<init>", desc := "()V" } : Jvm.MethodName)) ∈ WSall := ws_in (tb1 (List.mem_of_getElem? (i := 28) rfl)) (by decide +kernel)
theorem w_1_29 : (Jvm.Cond.code ({ cls := "GuaranteeBook$Reservation", name := "<init>", desc := "()V" } : Jvm.MethodName) prog_4_method_1_code (1 : Nat) (Option.none : Option Jvm.ClassFile.FieldType)) ∈ WSall := ws_in (tb1 (List.mem_of_getElem? (i := 29) rfl)) (by decide +kernel)
theorem w_1_30 : (Jvm.Cond.methodLink "GuaranteeBook$Reservation" (3 : Nat) ({ cls := "java/lang/Object", name := "<init>", desc := "()V" } : Jvm.MethodName)) ∈ WSall := ws_in (tb1 (List.mem_of_getElem? (i := 30) rfl)) (by decide +kernel)
theorem w_1_31 : (Jvm.Cond.classLink "GuaranteeBook$Reservation" (9 : Nat) "GuaranteeBook$Guarantee") ∈ WSall := ws_in (tb1 (List.mem_of_getElem? (i := 31) rfl)) (by decide +kernel)
theorem w_1_41 : (Jvm.Cond.fieldLink "GuaranteeBook$Reservation" (21 : Nat) "GuaranteeBook$Reservation" "state" "I") ∈ WSall := ws_in (tb1 (List.mem_of_getElem? (i := 41) rfl)) (by decide +kernel)
theorem w_1_56 : (Jvm.Cond.arrayClass Jvm.ClassFile.FieldType.boolean) ∈ WSall := ws_in (tb1 (List.mem_of_getElem? (i := 56) rfl)) (by decide +kernel)
theorem w_1_57 : (Jvm.Cond.arrayClass Jvm.ClassFile.FieldType.int) ∈ WSall := ws_in (tb1 (List.mem_of_getElem? (i := 57) rfl)) (by decide +kernel)
theorem w_1_58 : (Jvm.Cond.arrayClass Jvm.ClassFile.FieldType.long) ∈ WSall := ws_in (tb1 (List.mem_of_getElem? (i := 58) rfl)) (by decide +kernel)
theorem w_2_41 : (Jvm.Cond.methodLink "GuaranteeBook$Share" (3 : Nat) ({ cls := "java/lang/Object", name := "<init>", desc := "()V" } : Jvm.MethodName)) ∈ WSall := ws_in (tb2 (List.mem_of_getElem? (i := 41) rfl)) (by decide +kernel)
theorem w_2_54 : (Jvm.Cond.methodLink "GuaranteeBook$Interest" (3 : Nat) ({ cls := "java/lang/Object", name := "<init>", desc := "()V" } : Jvm.MethodName)) ∈ WSall := ws_in (tb2 (List.mem_of_getElem? (i := 54) rfl)) (by decide +kernel)
theorem w_2_71 : (Jvm.Cond.methodLink "GuaranteeBook$Guarantee" (1 : Nat) ({ cls := "java/lang/Object", name := "<init>", desc := "()V" } : Jvm.MethodName)) ∈ WSall := ws_in (tb2 (List.mem_of_getElem? (i := 71) rfl)) (by decide +kernel)
theorem w_2_72 : (Jvm.Cond.fieldLink "GuaranteeBook$Guarantee" (7 : Nat) "GuaranteeBook$Guarantee" "number" "I") ∈ WSall := ws_in (tb2 (List.mem_of_getElem? (i := 72) rfl)) (by decide +kernel)
theorem w_2_75 : (Jvm.Cond.fieldLink "GuaranteeBook$Guarantee" (13 : Nat) "GuaranteeBook$Guarantee" "holder" "I") ∈ WSall := ws_in (tb2 (List.mem_of_getElem? (i := 75) rfl)) (by decide +kernel)
theorem w_3_35 : (Jvm.Cond.methodLink "GuaranteeBookModel" (1 : Nat) ({ cls := "java/lang/Object", name := "<init>", desc := "()V" } : Jvm.MethodName)) ∈ WSall := ws_in (tb3 (List.mem_of_getElem? (i := 35) rfl)) (by decide +kernel)
